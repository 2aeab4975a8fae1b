set_option maxRecDepth 100000 in
theorem k1512 : (Cond.methodLink "PageSkeletonModel" (371 : Nat) ({ cls := "PageSkeletonModel", name := "isLeaf", desc := "(I)Z" } : MethodName)) ∈ wsG := wsG_a7 72 rfl rfl
set_option maxRecDepth 100000 in
theorem k1514 : (Cond.instanceMethod ({ cls := "PageSkeletonModel", name := "isLeaf", desc := "(I)Z" } : MethodName)) ∈ wsG := wsG_a7 74 rfl rfl
set_option maxRecDepth 100000 in
theorem k1515 : (Cond.code ({ cls := "PageSkeletonModel", name := "isLeaf", desc := "(I)Z" } : MethodName) prog_12_method_74_code (2 : Nat) (Option.some FieldType.boolean)) ∈ wsG := wsG_a7 75 rfl rfl
set_option maxRecDepth 100000 in
theorem k1524 : (Cond.methodLink "PageSkeletonModel" (374 : Nat) ({ cls := "PageSkeletonModel", name := "isOption", desc := "(I)Z" } : MethodName)) ∈ wsG := wsG_a7 84 rfl rfl
set_option maxRecDepth 100000 in
theorem k1526 : (Cond.instanceMethod ({ cls := "PageSkeletonModel", name := "isOption", desc := "(I)Z" } : MethodName)) ∈ wsG := wsG_a7 86 rfl rfl
set_option maxRecDepth 100000 in
theorem k1527 : (Cond.code ({ cls := "PageSkeletonModel", name := "isOption", desc := "(I)Z" } : MethodName) prog_12_method_75_code (2 : Nat) (Option.some FieldType.boolean)) ∈ wsG := wsG_a7 87 rfl rfl
set_option maxRecDepth 100000 in
theorem k1528 : (Cond.methodLink "PageSkeletonModel" (377 : Nat) ({ cls := "PageSkeletonModel", name := "sum", desc := "(II)I" } : MethodName)) ∈ wsG := wsG_a7 88 rfl rfl
set_option maxRecDepth 100000 in
theorem k1529 : (Cond.static ({ cls := "PageSkeletonModel", name := "sum", desc := "(II)I" } : MethodName)) ∈ wsG := wsG_a7 89 rfl rfl
set_option maxRecDepth 100000 in
theorem k1530 : (Cond.code ({ cls := "PageSkeletonModel", name := "sum", desc := "(II)I" } : MethodName) prog_12_method_77_code (2 : Nat) (Option.some FieldType.int)) ∈ wsG := wsG_a7 90 rfl rfl
set_option maxRecDepth 100000 in
theorem ks_yX10_isLeaf : Cond.selects RX10 yX10_isLeaf yX10_isLeaf ∈ wsG := wsG_p 86 rfl rfl
set_option maxRecDepth 100000 in
theorem ks_yX10_isOption : Cond.selects RX10 yX10_isOption yX10_isOption ∈ wsG := wsG_p 89 rfl rfl
theorem dX10_cutsFrom_0 : decode cX10_cutsFrom 0 = .ok (.aload_n 0, 1) := by decide +kernel
theorem dX10_cutsFrom_1 : decode cX10_cutsFrom 1 = .ok (.iload_n 1, 1) := by decide +kernel
theorem dX10_cutsFrom_2 : decode cX10_cutsFrom 2 = .ok (.invokevirtual 371, 3) := by decide +kernel
theorem dX10_cutsFrom_5 : decode cX10_cutsFrom 5 = .ok (.ifCond .eq 5, 3) := by decide +kernel
theorem dX10_cutsFrom_8 : decode cX10_cutsFrom 8 = .ok (.iload_n 3, 1) := by decide +kernel
theorem dX10_cutsFrom_9 : decode cX10_cutsFrom 9 = .ok (.ireturn, 1) := by decide +kernel
theorem dX10_cutsFrom_10 : decode cX10_cutsFrom 10 = .ok (.aload_n 0, 1) := by decide +kernel
theorem dX10_cutsFrom_11 : decode cX10_cutsFrom 11 = .ok (.getfield 94, 3) := by decide +kernel
theorem dX10_cutsFrom_14 : decode cX10_cutsFrom 14 = .ok (.iload_n 1, 1) := by decide +kernel
theorem dX10_cutsFrom_15 : decode cX10_cutsFrom 15 = .ok (.baload, 1) := by decide +kernel
theorem dX10_cutsFrom_16 : decode cX10_cutsFrom 16 = .ok (.ifCond .ne 53, 3) := by decide +kernel
theorem dX10_cutsFrom_19 : decode cX10_cutsFrom 19 = .ok (.aload_n 0, 1) := by decide +kernel
theorem dX10_cutsFrom_20 : decode cX10_cutsFrom 20 = .ok (.iload_n 1, 1) := by decide +kernel
theorem dX10_cutsFrom_21 : decode cX10_cutsFrom 21 = .ok (.invokevirtual 374, 3) := by decide +kernel
theorem dX10_cutsFrom_24 : decode cX10_cutsFrom 24 = .ok (.ifCond .eq 34, 3) := by decide +kernel
theorem dX10_cutsFrom_27 : decode cX10_cutsFrom 27 = .ok (.aload_n 0, 1) := by decide +kernel
theorem dX10_cutsFrom_28 : decode cX10_cutsFrom 28 = .ok (.getfield 97, 3) := by decide +kernel
theorem dX10_cutsFrom_31 : decode cX10_cutsFrom 31 = .ok (.iload_n 1, 1) := by decide +kernel
theorem dX10_cutsFrom_32 : decode cX10_cutsFrom 32 = .ok (.iconst 1, 1) := by decide +kernel
theorem dX10_cutsFrom_33 : decode cX10_cutsFrom 33 = .ok (.iadd, 1) := by decide +kernel
theorem dX10_cutsFrom_34 : decode cX10_cutsFrom 34 = .ok (.aaload, 1) := by decide +kernel
theorem dX10_cutsFrom_35 : decode cX10_cutsFrom 35 = .ok (.iload_n 2, 1) := by decide +kernel
theorem dX10_cutsFrom_36 : decode cX10_cutsFrom 36 = .ok (.iaload, 1) := by decide +kernel
theorem dX10_cutsFrom_37 : decode cX10_cutsFrom 37 = .ok (.aload_n 0, 1) := by decide +kernel
theorem dX10_cutsFrom_38 : decode cX10_cutsFrom 38 = .ok (.getfield 97, 3) := by decide +kernel
theorem dX10_cutsFrom_41 : decode cX10_cutsFrom 41 = .ok (.aload_n 0, 1) := by decide +kernel
theorem dX10_cutsFrom_42 : decode cX10_cutsFrom 42 = .ok (.getfield 91, 3) := by decide +kernel
theorem dX10_cutsFrom_45 : decode cX10_cutsFrom 45 = .ok (.iload_n 1, 1) := by decide +kernel
theorem dX10_cutsFrom_46 : decode cX10_cutsFrom 46 = .ok (.iaload, 1) := by decide +kernel
theorem dX10_cutsFrom_47 : decode cX10_cutsFrom 47 = .ok (.iconst 1, 1) := by decide +kernel
theorem dX10_cutsFrom_48 : decode cX10_cutsFrom 48 = .ok (.iadd, 1) := by decide +kernel
theorem dX10_cutsFrom_49 : decode cX10_cutsFrom 49 = .ok (.aaload, 1) := by decide +kernel
theorem dX10_cutsFrom_50 : decode cX10_cutsFrom 50 = .ok (.iload_n 2, 1) := by decide +kernel
theorem dX10_cutsFrom_51 : decode cX10_cutsFrom 51 = .ok (.iaload, 1) := by decide +kernel
theorem dX10_cutsFrom_52 : decode cX10_cutsFrom 52 = .ok (.invokestatic 271, 3) := by decide +kernel
theorem dX10_cutsFrom_55 : decode cX10_cutsFrom 55 = .ok (.goto 13, 3) := by decide +kernel
theorem dX10_cutsFrom_58 : decode cX10_cutsFrom 58 = .ok (.aload_n 0, 1) := by decide +kernel
theorem dX10_cutsFrom_59 : decode cX10_cutsFrom 59 = .ok (.getfield 97, 3) := by decide +kernel
theorem dX10_cutsFrom_62 : decode cX10_cutsFrom 62 = .ok (.iload_n 1, 1) := by decide +kernel
theorem dX10_cutsFrom_63 : decode cX10_cutsFrom 63 = .ok (.iconst 1, 1) := by decide +kernel
theorem dX10_cutsFrom_64 : decode cX10_cutsFrom 64 = .ok (.iadd, 1) := by decide +kernel
theorem dX10_cutsFrom_65 : decode cX10_cutsFrom 65 = .ok (.aaload, 1) := by decide +kernel
theorem dX10_cutsFrom_66 : decode cX10_cutsFrom 66 = .ok (.iload_n 2, 1) := by decide +kernel
theorem dX10_cutsFrom_67 : decode cX10_cutsFrom 67 = .ok (.iaload, 1) := by decide +kernel
theorem dX10_cutsFrom_68 : decode cX10_cutsFrom 68 = .ok (.ireturn, 1) := by decide +kernel
theorem dX10_cutsFrom_69 : decode cX10_cutsFrom 69 = .ok (.aload_n 0, 1) := by decide +kernel
theorem dX10_cutsFrom_70 : decode cX10_cutsFrom 70 = .ok (.iload_n 1, 1) := by decide +kernel
theorem dX10_cutsFrom_71 : decode cX10_cutsFrom 71 = .ok (.invokevirtual 374, 3) := by decide +kernel
theorem dX10_cutsFrom_74 : decode cX10_cutsFrom 74 = .ok (.ifCond .eq 16, 3) := by decide +kernel
theorem dX10_cutsFrom_77 : decode cX10_cutsFrom 77 = .ok (.aload_n 0, 1) := by decide +kernel
theorem dX10_cutsFrom_78 : decode cX10_cutsFrom 78 = .ok (.getfield 97, 3) := by decide +kernel
theorem dX10_cutsFrom_81 : decode cX10_cutsFrom 81 = .ok (.iload_n 1, 1) := by decide +kernel
theorem dX10_cutsFrom_82 : decode cX10_cutsFrom 82 = .ok (.iconst 1, 1) := by decide +kernel
theorem dX10_cutsFrom_83 : decode cX10_cutsFrom 83 = .ok (.iadd, 1) := by decide +kernel
theorem dX10_cutsFrom_84 : decode cX10_cutsFrom 84 = .ok (.aaload, 1) := by decide +kernel
theorem dX10_cutsFrom_85 : decode cX10_cutsFrom 85 = .ok (.iload_n 2, 1) := by decide +kernel
theorem dX10_cutsFrom_86 : decode cX10_cutsFrom 86 = .ok (.iaload, 1) := by decide +kernel
theorem dX10_cutsFrom_87 : decode cX10_cutsFrom 87 = .ok (.goto 31, 3) := by decide +kernel
theorem dX10_cutsFrom_90 : decode cX10_cutsFrom 90 = .ok (.aload_n 0, 1) := by decide +kernel
theorem dX10_cutsFrom_91 : decode cX10_cutsFrom 91 = .ok (.getfield 97, 3) := by decide +kernel
theorem dX10_cutsFrom_94 : decode cX10_cutsFrom 94 = .ok (.aload_n 0, 1) := by decide +kernel
theorem dX10_cutsFrom_95 : decode cX10_cutsFrom 95 = .ok (.getfield 91, 3) := by decide +kernel
theorem dX10_cutsFrom_98 : decode cX10_cutsFrom 98 = .ok (.iload_n 1, 1) := by decide +kernel
theorem dX10_cutsFrom_99 : decode cX10_cutsFrom 99 = .ok (.iaload, 1) := by decide +kernel
theorem dX10_cutsFrom_100 : decode cX10_cutsFrom 100 = .ok (.iconst 1, 1) := by decide +kernel
theorem dX10_cutsFrom_101 : decode cX10_cutsFrom 101 = .ok (.iadd, 1) := by decide +kernel
theorem dX10_cutsFrom_102 : decode cX10_cutsFrom 102 = .ok (.aaload, 1) := by decide +kernel
theorem dX10_cutsFrom_103 : decode cX10_cutsFrom 103 = .ok (.iload_n 2, 1) := by decide +kernel
theorem dX10_cutsFrom_104 : decode cX10_cutsFrom 104 = .ok (.iaload, 1) := by decide +kernel
theorem dX10_cutsFrom_105 : decode cX10_cutsFrom 105 = .ok (.aload_n 0, 1) := by decide +kernel
theorem dX10_cutsFrom_106 : decode cX10_cutsFrom 106 = .ok (.getfield 97, 3) := by decide +kernel
theorem dX10_cutsFrom_109 : decode cX10_cutsFrom 109 = .ok (.iload_n 1, 1) := by decide +kernel
theorem dX10_cutsFrom_110 : decode cX10_cutsFrom 110 = .ok (.iconst 1, 1) := by decide +kernel
theorem dX10_cutsFrom_111 : decode cX10_cutsFrom 111 = .ok (.iadd, 1) := by decide +kernel
theorem dX10_cutsFrom_112 : decode cX10_cutsFrom 112 = .ok (.aaload, 1) := by decide +kernel
theorem dX10_cutsFrom_113 : decode cX10_cutsFrom 113 = .ok (.iload_n 2, 1) := by decide +kernel
theorem dX10_cutsFrom_114 : decode cX10_cutsFrom 114 = .ok (.iaload, 1) := by decide +kernel
theorem dX10_cutsFrom_115 : decode cX10_cutsFrom 115 = .ok (.invokestatic 271, 3) := by decide +kernel
theorem dX10_cutsFrom_118 : decode cX10_cutsFrom 118 = .ok (.ireturn, 1) := by decide +kernel
theorem dX10_isLeaf_0 : decode cX10_isLeaf 0 = .ok (.aload_n 0, 1) := by decide +kernel
theorem dX10_isLeaf_1 : decode cX10_isLeaf 1 = .ok (.getfield 45, 3) := by decide +kernel
theorem dX10_isLeaf_4 : decode cX10_isLeaf 4 = .ok (.iconst 0, 1) := by decide +kernel
theorem dX10_isLeaf_5 : decode cX10_isLeaf 5 = .ok (.aaload, 1) := by decide +kernel
theorem dX10_isLeaf_6 : decode cX10_isLeaf 6 = .ok (.aload_n 0, 1) := by decide +kernel
theorem dX10_isLeaf_7 : decode cX10_isLeaf 7 = .ok (.getfield 88, 3) := by decide +kernel
theorem dX10_isLeaf_10 : decode cX10_isLeaf 10 = .ok (.iload_n 1, 1) := by decide +kernel
theorem dX10_isLeaf_11 : decode cX10_isLeaf 11 = .ok (.iaload, 1) := by decide +kernel
theorem dX10_isLeaf_12 : decode cX10_isLeaf 12 = .ok (.iaload, 1) := by decide +kernel
theorem dX10_isLeaf_13 : decode cX10_isLeaf 13 = .ok (.iconst 3, 1) := by decide +kernel
theorem dX10_isLeaf_14 : decode cX10_isLeaf 14 = .ok (.if_icmp .ge 7, 3) := by decide +kernel
theorem dX10_isLeaf_17 : decode cX10_isLeaf 17 = .ok (.iconst 1, 1) := by decide +kernel
theorem dX10_isLeaf_18 : decode cX10_isLeaf 18 = .ok (.goto 4, 3) := by decide +kernel
theorem dX10_isLeaf_21 : decode cX10_isLeaf 21 = .ok (.iconst 0, 1) := by decide +kernel
theorem dX10_isLeaf_22 : decode cX10_isLeaf 22 = .ok (.ireturn, 1) := by decide +kernel
theorem dX10_isOption_0 : decode cX10_isOption 0 = .ok (.aload_n 0, 1) := by decide +kernel
theorem dX10_isOption_1 : decode cX10_isOption 1 = .ok (.getfield 45, 3) := by decide +kernel
theorem dX10_isOption_4 : decode cX10_isOption 4 = .ok (.iconst 0, 1) := by decide +kernel
theorem dX10_isOption_5 : decode cX10_isOption 5 = .ok (.aaload, 1) := by decide +kernel
theorem dX10_isOption_6 : decode cX10_isOption 6 = .ok (.aload_n 0, 1) := by decide +kernel
theorem dX10_isOption_7 : decode cX10_isOption 7 = .ok (.getfield 88, 3) := by decide +kernel
theorem dX10_isOption_10 : decode cX10_isOption 10 = .ok (.iload_n 1, 1) := by decide +kernel
theorem dX10_isOption_11 : decode cX10_isOption 11 = .ok (.iaload, 1) := by decide +kernel
theorem dX10_isOption_12 : decode cX10_isOption 12 = .ok (.iaload, 1) := by decide +kernel
theorem dX10_isOption_13 : decode cX10_isOption 13 = .ok (.iconst 3, 1) := by decide +kernel
theorem dX10_isOption_14 : decode cX10_isOption 14 = .ok (.if_icmp .ne 7, 3) := by decide +kernel
theorem dX10_isOption_17 : decode cX10_isOption 17 = .ok (.iconst 1, 1) := by decide +kernel
theorem dX10_isOption_18 : decode cX10_isOption 18 = .ok (.goto 4, 3) := by decide +kernel
theorem dX10_isOption_21 : decode cX10_isOption 21 = .ok (.iconst 0, 1) := by decide +kernel
theorem dX10_isOption_22 : decode cX10_isOption 22 = .ok (.ireturn, 1) := by decide +kernel
theorem dX10_takes_0 : decode cX10_takes 0 = .ok (.aload_n 0, 1) := by decide +kernel
theorem dX10_takes_1 : decode cX10_takes 1 = .ok (.getfield 88, 3) := by decide +kernel
theorem dX10_takes_4 : decode cX10_takes 4 = .ok (.iload_n 1, 1) := by decide +kernel
theorem dX10_takes_5 : decode cX10_takes 5 = .ok (.iaload, 1) := by decide +kernel
theorem dX10_takes_6 : decode cX10_takes 6 = .ok (.istore_n 3, 1) := by decide +kernel
theorem dX10_takes_7 : decode cX10_takes 7 = .ok (.aload_n 0, 1) := by decide +kernel
theorem dX10_takes_8 : decode cX10_takes 8 = .ok (.getfield 45, 3) := by decide +kernel
theorem dX10_takes_11 : decode cX10_takes 11 = .ok (.iconst 0, 1) := by decide +kernel
theorem dX10_takes_12 : decode cX10_takes 12 = .ok (.aaload, 1) := by decide +kernel
theorem dX10_takes_13 : decode cX10_takes 13 = .ok (.iload_n 3, 1) := by decide +kernel
theorem dX10_takes_14 : decode cX10_takes 14 = .ok (.iaload, 1) := by decide +kernel
theorem dX10_takes_15 : decode cX10_takes 15 = .ok (.istore 4, 2) := by decide +kernel
theorem dX10_takes_17 : decode cX10_takes 17 = .ok (.iload 4, 2) := by decide +kernel
theorem dX10_takes_19 : decode cX10_takes 19 = .ok (.iconst 2, 1) := by decide +kernel
theorem dX10_takes_20 : decode cX10_takes 20 = .ok (.if_icmp .ne 21, 3) := by decide +kernel
theorem dX10_takes_23 : decode cX10_takes 23 = .ok (.aload_n 0, 1) := by decide +kernel
theorem dX10_takes_24 : decode cX10_takes 24 = .ok (.getfield 20, 3) := by decide +kernel
theorem dX10_takes_27 : decode cX10_takes 27 = .ok (.iload_n 2, 1) := by decide +kernel
theorem dX10_takes_28 : decode cX10_takes 28 = .ok (.iaload, 1) := by decide +kernel
theorem dX10_takes_29 : decode cX10_takes 29 = .ok (.iconst 2, 1) := by decide +kernel
theorem dX10_takes_30 : decode cX10_takes 30 = .ok (.if_icmp .ne 7, 3) := by decide +kernel
theorem dX10_takes_33 : decode cX10_takes 33 = .ok (.iconst 1, 1) := by decide +kernel
theorem dX10_takes_34 : decode cX10_takes 34 = .ok (.goto 24, 3) := by decide +kernel
theorem dX10_takes_37 : decode cX10_takes 37 = .ok (.iconst 0, 1) := by decide +kernel
theorem dX10_takes_38 : decode cX10_takes 38 = .ok (.goto 20, 3) := by decide +kernel
theorem dX10_takes_41 : decode cX10_takes 41 = .ok (.aload_n 0, 1) := by decide +kernel
theorem dX10_takes_42 : decode cX10_takes 42 = .ok (.getfield 48, 3) := by decide +kernel
theorem dX10_takes_45 : decode cX10_takes 45 = .ok (.iconst 0, 1) := by decide +kernel
theorem dX10_takes_46 : decode cX10_takes 46 = .ok (.aaload, 1) := by decide +kernel
theorem dX10_takes_47 : decode cX10_takes 47 = .ok (.iload_n 3, 1) := by decide +kernel
theorem dX10_takes_48 : decode cX10_takes 48 = .ok (.iaload, 1) := by decide +kernel
theorem dX10_takes_49 : decode cX10_takes 49 = .ok (.iload_n 2, 1) := by decide +kernel
theorem dX10_takes_50 : decode cX10_takes 50 = .ok (.if_icmp .ne 7, 3) := by decide +kernel
theorem dX10_takes_53 : decode cX10_takes 53 = .ok (.iconst 1, 1) := by decide +kernel
theorem dX10_takes_54 : decode cX10_takes 54 = .ok (.goto 4, 3) := by decide +kernel
theorem dX10_takes_57 : decode cX10_takes 57 = .ok (.iconst 0, 1) := by decide +kernel
theorem dX10_takes_58 : decode cX10_takes 58 = .ok (.ireturn, 1) := by decide +kernel
theorem dX10_turnsOn_0 : decode cX10_turnsOn 0 = .ok (.aload_n 0, 1) := by decide +kernel
theorem dX10_turnsOn_1 : decode cX10_turnsOn 1 = .ok (.getfield 103, 3) := by decide +kernel
theorem dX10_turnsOn_4 : decode cX10_turnsOn 4 = .ok (.iload_n 1, 1) := by decide +kernel
theorem dX10_turnsOn_5 : decode cX10_turnsOn 5 = .ok (.baload, 1) := by decide +kernel
theorem dX10_turnsOn_6 : decode cX10_turnsOn 6 = .ok (.istore_n 2, 1) := by decide +kernel
theorem dX10_turnsOn_7 : decode cX10_turnsOn 7 = .ok (.aload_n 0, 1) := by decide +kernel
theorem dX10_turnsOn_8 : decode cX10_turnsOn 8 = .ok (.getfield 103, 3) := by decide +kernel
theorem dX10_turnsOn_11 : decode cX10_turnsOn 11 = .ok (.iload_n 1, 1) := by decide +kernel
theorem dX10_turnsOn_12 : decode cX10_turnsOn 12 = .ok (.iconst 1, 1) := by decide +kernel
theorem dX10_turnsOn_13 : decode cX10_turnsOn 13 = .ok (.bastore, 1) := by decide +kernel
theorem dX10_turnsOn_14 : decode cX10_turnsOn 14 = .ok (.iload_n 2, 1) := by decide +kernel
theorem dX10_turnsOn_15 : decode cX10_turnsOn 15 = .ok (.ifCond .ne 7, 3) := by decide +kernel
theorem dX10_turnsOn_18 : decode cX10_turnsOn 18 = .ok (.iconst 1, 1) := by decide +kernel
theorem dX10_turnsOn_19 : decode cX10_turnsOn 19 = .ok (.goto 4, 3) := by decide +kernel
theorem dX10_turnsOn_22 : decode cX10_turnsOn 22 = .ok (.iconst 0, 1) := by decide +kernel
theorem dX10_turnsOn_23 : decode cX10_turnsOn 23 = .ok (.ireturn, 1) := by decide +kernel
theorem dX10_waysFrom_0 : decode cX10_waysFrom 0 = .ok (.aload_n 0, 1) := by decide +kernel
theorem dX10_waysFrom_1 : decode cX10_waysFrom 1 = .ok (.iload_n 1, 1) := by decide +kernel
theorem dX10_waysFrom_2 : decode cX10_waysFrom 2 = .ok (.invokevirtual 371, 3) := by decide +kernel
theorem dX10_waysFrom_5 : decode cX10_waysFrom 5 = .ok (.ifCond .eq 5, 3) := by decide +kernel
theorem dX10_waysFrom_8 : decode cX10_waysFrom 8 = .ok (.iload_n 3, 1) := by decide +kernel
theorem dX10_waysFrom_9 : decode cX10_waysFrom 9 = .ok (.ireturn, 1) := by decide +kernel
theorem dX10_waysFrom_10 : decode cX10_waysFrom 10 = .ok (.aload_n 0, 1) := by decide +kernel
theorem dX10_waysFrom_11 : decode cX10_waysFrom 11 = .ok (.getfield 94, 3) := by decide +kernel
theorem dX10_waysFrom_14 : decode cX10_waysFrom 14 = .ok (.iload_n 1, 1) := by decide +kernel
theorem dX10_waysFrom_15 : decode cX10_waysFrom 15 = .ok (.baload, 1) := by decide +kernel
theorem dX10_waysFrom_16 : decode cX10_waysFrom 16 = .ok (.ifCond .ne 53, 3) := by decide +kernel
theorem dX10_waysFrom_19 : decode cX10_waysFrom 19 = .ok (.aload_n 0, 1) := by decide +kernel
theorem dX10_waysFrom_20 : decode cX10_waysFrom 20 = .ok (.iload_n 1, 1) := by decide +kernel
theorem dX10_waysFrom_21 : decode cX10_waysFrom 21 = .ok (.invokevirtual 374, 3) := by decide +kernel
theorem dX10_waysFrom_24 : decode cX10_waysFrom 24 = .ok (.ifCond .eq 34, 3) := by decide +kernel
theorem dX10_waysFrom_27 : decode cX10_waysFrom 27 = .ok (.aload_n 0, 1) := by decide +kernel
theorem dX10_waysFrom_28 : decode cX10_waysFrom 28 = .ok (.getfield 97, 3) := by decide +kernel
theorem dX10_waysFrom_31 : decode cX10_waysFrom 31 = .ok (.iload_n 1, 1) := by decide +kernel
theorem dX10_waysFrom_32 : decode cX10_waysFrom 32 = .ok (.iconst 1, 1) := by decide +kernel
theorem dX10_waysFrom_33 : decode cX10_waysFrom 33 = .ok (.iadd, 1) := by decide +kernel
theorem dX10_waysFrom_34 : decode cX10_waysFrom 34 = .ok (.aaload, 1) := by decide +kernel
theorem dX10_waysFrom_35 : decode cX10_waysFrom 35 = .ok (.iload_n 2, 1) := by decide +kernel
theorem dX10_waysFrom_36 : decode cX10_waysFrom 36 = .ok (.iaload, 1) := by decide +kernel
theorem dX10_waysFrom_37 : decode cX10_waysFrom 37 = .ok (.aload_n 0, 1) := by decide +kernel
theorem dX10_waysFrom_38 : decode cX10_waysFrom 38 = .ok (.getfield 97, 3) := by decide +kernel
theorem dX10_waysFrom_41 : decode cX10_waysFrom 41 = .ok (.aload_n 0, 1) := by decide +kernel
theorem dX10_waysFrom_42 : decode cX10_waysFrom 42 = .ok (.getfield 91, 3) := by decide +kernel
theorem dX10_waysFrom_45 : decode cX10_waysFrom 45 = .ok (.iload_n 1, 1) := by decide +kernel
theorem dX10_waysFrom_46 : decode cX10_waysFrom 46 = .ok (.iaload, 1) := by decide +kernel
theorem dX10_waysFrom_47 : decode cX10_waysFrom 47 = .ok (.iconst 1, 1) := by decide +kernel
theorem dX10_waysFrom_48 : decode cX10_waysFrom 48 = .ok (.iadd, 1) := by decide +kernel
theorem dX10_waysFrom_49 : decode cX10_waysFrom 49 = .ok (.aaload, 1) := by decide +kernel
theorem dX10_waysFrom_50 : decode cX10_waysFrom 50 = .ok (.iload_n 2, 1) := by decide +kernel
theorem dX10_waysFrom_51 : decode cX10_waysFrom 51 = .ok (.iaload, 1) := by decide +kernel
theorem dX10_waysFrom_52 : decode cX10_waysFrom 52 = .ok (.invokestatic 377, 3) := by decide +kernel
theorem dX10_waysFrom_55 : decode cX10_waysFrom 55 = .ok (.goto 13, 3) := by decide +kernel
theorem dX10_waysFrom_58 : decode cX10_waysFrom 58 = .ok (.aload_n 0, 1) := by decide +kernel
theorem dX10_waysFrom_59 : decode cX10_waysFrom 59 = .ok (.getfield 97, 3) := by decide +kernel
theorem dX10_waysFrom_62 : decode cX10_waysFrom 62 = .ok (.iload_n 1, 1) := by decide +kernel
theorem dX10_waysFrom_63 : decode cX10_waysFrom 63 = .ok (.iconst 1, 1) := by decide +kernel
theorem dX10_waysFrom_64 : decode cX10_waysFrom 64 = .ok (.iadd, 1) := by decide +kernel
theorem dX10_waysFrom_65 : decode cX10_waysFrom 65 = .ok (.aaload, 1) := by decide +kernel
theorem dX10_waysFrom_66 : decode cX10_waysFrom 66 = .ok (.iload_n 2, 1) := by decide +kernel
theorem dX10_waysFrom_67 : decode cX10_waysFrom 67 = .ok (.iaload, 1) := by decide +kernel
theorem dX10_waysFrom_68 : decode cX10_waysFrom 68 = .ok (.ireturn, 1) := by decide +kernel
theorem dX10_waysFrom_69 : decode cX10_waysFrom 69 = .ok (.aload_n 0, 1) := by decide +kernel
theorem dX10_waysFrom_70 : decode cX10_waysFrom 70 = .ok (.iload_n 1, 1) := by decide +kernel
theorem dX10_waysFrom_71 : decode cX10_waysFrom 71 = .ok (.invokevirtual 374, 3) := by decide +kernel
theorem dX10_waysFrom_74 : decode cX10_waysFrom 74 = .ok (.ifCond .eq 16, 3) := by decide +kernel
theorem dX10_waysFrom_77 : decode cX10_waysFrom 77 = .ok (.aload_n 0, 1) := by decide +kernel
theorem dX10_waysFrom_78 : decode cX10_waysFrom 78 = .ok (.getfield 97, 3) := by decide +kernel
theorem dX10_waysFrom_81 : decode cX10_waysFrom 81 = .ok (.iload_n 1, 1) := by decide +kernel
theorem dX10_waysFrom_82 : decode cX10_waysFrom 82 = .ok (.iconst 1, 1) := by decide +kernel
theorem dX10_waysFrom_83 : decode cX10_waysFrom 83 = .ok (.iadd, 1) := by decide +kernel
theorem dX10_waysFrom_84 : decode cX10_waysFrom 84 = .ok (.aaload, 1) := by decide +kernel
theorem dX10_waysFrom_85 : decode cX10_waysFrom 85 = .ok (.iload_n 2, 1) := by decide +kernel
theorem dX10_waysFrom_86 : decode cX10_waysFrom 86 = .ok (.iaload, 1) := by decide +kernel
theorem dX10_waysFrom_87 : decode cX10_waysFrom 87 = .ok (.goto 31, 3) := by decide +kernel
theorem dX10_waysFrom_90 : decode cX10_waysFrom 90 = .ok (.aload_n 0, 1) := by decide +kernel
theorem dX10_waysFrom_91 : decode cX10_waysFrom 91 = .ok (.getfield 97, 3) := by decide +kernel
theorem dX10_waysFrom_94 : decode cX10_waysFrom 94 = .ok (.aload_n 0, 1) := by decide +kernel
theorem dX10_waysFrom_95 : decode cX10_waysFrom 95 = .ok (.getfield 91, 3) := by decide +kernel
theorem dX10_waysFrom_98 : decode cX10_waysFrom 98 = .ok (.iload_n 1, 1) := by decide +kernel
theorem dX10_waysFrom_99 : decode cX10_waysFrom 99 = .ok (.iaload, 1) := by decide +kernel
theorem dX10_waysFrom_100 : decode cX10_waysFrom 100 = .ok (.iconst 1, 1) := by decide +kernel
theorem dX10_waysFrom_101 : decode cX10_waysFrom 101 = .ok (.iadd, 1) := by decide +kernel
theorem dX10_waysFrom_102 : decode cX10_waysFrom 102 = .ok (.aaload, 1) := by decide +kernel
theorem dX10_waysFrom_103 : decode cX10_waysFrom 103 = .ok (.iload_n 2, 1) := by decide +kernel
theorem dX10_waysFrom_104 : decode cX10_waysFrom 104 = .ok (.iaload, 1) := by decide +kernel
theorem dX10_waysFrom_105 : decode cX10_waysFrom 105 = .ok (.aload_n 0, 1) := by decide +kernel
theorem dX10_waysFrom_106 : decode cX10_waysFrom 106 = .ok (.getfield 97, 3) := by decide +kernel
theorem dX10_waysFrom_109 : decode cX10_waysFrom 109 = .ok (.iload_n 1, 1) := by decide +kernel
theorem dX10_waysFrom_110 : decode cX10_waysFrom 110 = .ok (.iconst 1, 1) := by decide +kernel
theorem dX10_waysFrom_111 : decode cX10_waysFrom 111 = .ok (.iadd, 1) := by decide +kernel
theorem dX10_waysFrom_112 : decode cX10_waysFrom 112 = .ok (.aaload, 1) := by decide +kernel
theorem dX10_waysFrom_113 : decode cX10_waysFrom 113 = .ok (.iload_n 2, 1) := by decide +kernel
theorem dX10_waysFrom_114 : decode cX10_waysFrom 114 = .ok (.iaload, 1) := by decide +kernel
theorem dX10_waysFrom_115 : decode cX10_waysFrom 115 = .ok (.invokestatic 377, 3) := by decide +kernel
theorem dX10_waysFrom_118 : decode cX10_waysFrom 118 = .ok (.ireturn, 1) := by decide +kernel
/-! the states, told of each; what is asked of them -/
def stOK (μ : va_M) : Prop := 0 ≤ μ 0 39 ∧ μ 0 39 ≤ 1800 ∧ tok μ 0 ∧ ∀ x : Nat, (x : Int) < μ 0 39 → (0 ≤ μ 4412 x ∧ μ 4412 x < μ 719 0) ∧ (μ 4414 x = 0 ∨ μ 4414 x = 1) ∧ (3 ≤ μ 507 (μ 4412 x).toNat → 0 ≤ μ 4413 x ∧ μ 4413 x < μ 0 39)
theorem RS_ok {u μ : va_M} : ∀ (w : Rw) (p q : Nat), RS u w p q → RA μ 0 w p → rWF w → ∀ x : Nat, q ≤ x → x < q + rS w → ∃ nd : Nat, u 4412 x = nd ∧ nd < p + rN w ∧ (u 4414 x = 0 ∨ u 4414 x = 1) ∧ (3 ≤ μ 507 nd → ∃ y : Nat, u 4413 x = y ∧ y < q + rS w)
  | .leaf, p, q, _, _, _, x, h1, h2 => by
    have e : rS (Std.DTreeMap.Internal.Impl.leaf : Rw) = 0 := rfl
    omega
  | .inner z k v l r, p, q, hs, ⟨a1, a2, a3, a4, a5⟩, ⟨f1, f2, f3, f4, f5, f6, f7, f8⟩, x, h1, h2 => by
    rw [RS] at hs
    obtain ⟨s1, s2, s3⟩ := hs
    have a1 : μ 507 p = k := a1
    rw [rN_in]
    rw [rS_in] at h2 ⊢
    by_cases hk : k < 3
    · rw [if_pos hk] at s3 h2 ⊢
      obtain rfl := f2 hk
      have e0 : rN (Std.DTreeMap.Internal.Impl.leaf : Rw) = 0 := rfl
      rw [e0] at a5 ⊢
      by_cases hx : x = q
      · subst hx
        exact ⟨p, s1, by omega, Or.inl s2, fun h => by omega⟩
      · obtain ⟨nd, b1, b2, b3, b4⟩ := RS_ok r (p + 1) (q + 1) s3 a5 f8 x (by omega) (by omega)
        refine ⟨nd, b1, by omega, b3, fun h => ?_⟩
        obtain ⟨y, c1, c2⟩ := b4 h
        exact ⟨y, c1, by omega⟩
    · rw [if_neg hk] at s3 h2 ⊢
      obtain ⟨t1, t2, t3, t4, t5, t6⟩ := s3
      by_cases hx : x = q
      · subst hx
        exact ⟨p, s1, by omega, Or.inl s2, fun _ => ⟨_, t1, by omega⟩⟩
      · by_cases hx2 : x < q + 1 + rS l
        · obtain ⟨nd, b1, b2, b3, b4⟩ := RS_ok l (p + 1) (q + 1) t2 a4 f7 x (by omega) (by omega)
          refine ⟨nd, b1, by omega, b3, fun h => ?_⟩
          obtain ⟨y, c1, c2⟩ := b4 h
          exact ⟨y, c1, by omega⟩
        · by_cases hx3 : x = q + 1 + rS l
          · subst hx3
            exact ⟨p, t3, by omega, Or.inr t4, fun _ => ⟨_, t5, by omega⟩⟩
          · obtain ⟨nd, b1, b2, b3, b4⟩ := RS_ok r (p + 1 + rN l) (q + 1 + rS l + 1) t6 a5 f8 x (by omega) (by omega)
            refine ⟨nd, b1, by omega, b3, fun h => ?_⟩
            obtain ⟨y, c1, c2⟩ := b4 h
            exact ⟨y, c1, by omega⟩
theorem stOK_of {μ : va_M} {w : Rw} (hT : TR μ 0 w) (hw : rWF w) (hN : rN w ≤ 900) (h39 : μ 0 39 = rS w) (hs : RS μ w 0 0) : stOK μ := by
  have h1 := rS_N w
  have h2 := hT.1
  refine ⟨by (first | ((try clear h2); (try clear h1); (try clear hN); omega) | omega), by omega, TR_tok hT hw hN, fun x hx => ?_⟩
  obtain ⟨nd, b1, b2, b3, b4⟩ := RS_ok w 0 0 hs hT.2 hw x (by (first | ((try clear b4); (try clear b3); (try clear b2); (try clear b1); (try clear nd); (try clear h2); (try clear h1); (try clear h39); (try clear hN); omega) | omega)) (by (first | ((try clear b4); (try clear b3); (try clear b2); (try clear b1); (try clear nd); (try clear h2); (try clear h1); (try clear hN); omega) | omega))
  refine ⟨by (first | ((try clear b4); (try clear b3); (try clear h1); (try clear h39); (try clear hN); omega) | omega), b3, fun h => ?_⟩
  rw [b1, Int.toNat_natCast] at h
  obtain ⟨y, c1, c2⟩ := b4 h
  (first | ((try clear h); (try clear b4); (try clear b3); (try clear b2); (try clear b1); (try clear h2); (try clear h1); (try clear hN); omega) | omega)
theorem stOK_fr {P : Nat → Nat → Prop} {μ u : va_M} (h : stOK μ) (hf : fr P μ u) (hp : ∀ x y : Nat, P x y → (x = 0 ∧ y ≠ 39) ∨ (1 ≤ x ∧ x < 507) ∨ (4415 ≤ x)) : stOK u := by
  obtain ⟨h1, h2, ⟨t1, t2, t3⟩, h4⟩ := h
  have q : ∀ x y : Nat, ¬ ((x = 0 ∧ y ≠ 39) ∨ (1 ≤ x ∧ x < 507) ∨ (4415 ≤ x)) → u x y = μ x y := fun x y hn => hf x y (fun hh => hn (hp x y hh))
  have e39 := q 0 39 (by (first | ((try clear e39); (try clear q); (try clear h4); (try clear t3); (try clear t2); (try clear t1); (try clear h2); (try clear h1); (try clear hp); omega) | omega))
  have e719 := q 719 0 (by (first | ((try clear e719); (try clear e39); (try clear q); (try clear h4); (try clear t3); (try clear t2); (try clear t1); (try clear h2); (try clear h1); (try clear hp); omega) | omega))
  refine ⟨by (first | ((try clear e719); (try clear q); (try clear h4); (try clear t3); (try clear t2); (try clear t1); (try clear hp); omega) | omega), by (first | ((try clear e719); (try clear q); (try clear h4); (try clear t3); (try clear t2); (try clear t1); (try clear hp); omega) | omega), ⟨by (first | ((try clear e39); (try clear q); (try clear h4); (try clear t3); (try clear h2); (try clear h1); (try clear hp); omega) | omega), by (first | ((try clear e39); (try clear q); (try clear h4); (try clear t3); (try clear h2); (try clear h1); (try clear hp); omega) | omega), fun x hx => ?_⟩, fun x hx => ?_⟩
  · rw [e719] at hx
    have h9 := t3 x hx
    unfold cok at h9 ⊢
    rw [q (507 + 0) x (by (first | ((try clear h9); (try clear e719); (try clear e39); (try clear q); (try clear h4); (try clear t3); (try clear t2); (try clear t1); (try clear h2); (try clear h1); (try clear hp); omega) | omega)), q (578 + 0) x (by (first | ((try clear h9); (try clear e719); (try clear e39); (try clear q); (try clear h4); (try clear t3); (try clear t2); (try clear t1); (try clear h2); (try clear h1); (try clear hp); omega) | omega)), q (649 + 0) x (by (first | ((try clear h9); (try clear e719); (try clear e39); (try clear q); (try clear h4); (try clear t3); (try clear t2); (try clear t1); (try clear h2); (try clear h1); (try clear hp); omega) | omega)), e719]
    exact h9
  · rw [e39] at hx
    have h9 := h4 x hx
    rw [q 4412 x (by (first | ((try clear h9); (try clear e719); (try clear e39); (try clear q); (try clear h4); (try clear t3); (try clear t2); (try clear t1); (try clear h2); (try clear h1); (try clear hp); omega) | omega)), q 4413 x (by (first | ((try clear h9); (try clear e719); (try clear e39); (try clear q); (try clear h4); (try clear t3); (try clear t2); (try clear t1); (try clear h2); (try clear h1); (try clear hp); omega) | omega)), q 4414 x (by (first | ((try clear h9); (try clear e719); (try clear e39); (try clear q); (try clear h4); (try clear t3); (try clear t2); (try clear t1); (try clear h2); (try clear h1); (try clear hp); omega) | omega)), q 507 _ (by (first | ((try clear h9); (try clear e719); (try clear e39); (try clear q); (try clear h4); (try clear t3); (try clear t2); (try clear t1); (try clear h2); (try clear h1); (try clear hp); omega) | omega)), e719, e39]
    exact h9
def nod (μ : va_M) (q : Nat) : Int := μ 507 (μ 4412 q).toNat
def tkF (μ : va_M) (q : Nat) (k : Int) : Prop := if nod μ q = 2 then μ 3 k.toNat = 2 else μ 578 (μ 4412 q).toNat = k
/-- what is come to from a state, of a column that is known behind it -/
def wF (μ : va_M) (q col : Nat) (tk : Int) : Int := if nod μ q < 3 then tk else if μ 4414 q = 0 then (if nod μ q = 3 then min 1000000000 (μ (4416 + (q + 1)) col + μ (4416 + (μ 4413 q + 1).toNat) col) else μ (4416 + (q + 1)) col) else (if nod μ q = 3 then μ (4416 + (q + 1)) col else min 1000000000 (μ (4416 + (μ 4413 q + 1).toNat) col + μ (4416 + (q + 1)) col))
def cF (μ : va_M) (q col : Nat) (tk : Int) : Int := if nod μ q < 3 then tk else if μ 4414 q = 0 then (if nod μ q = 3 then min (μ (4416 + (q + 1)) col) (μ (4416 + (μ 4413 q + 1).toNat) col) else μ (4416 + (q + 1)) col) else (if nod μ q = 3 then μ (4416 + (q + 1)) col else min (μ (4416 + (μ 4413 q + 1).toNat) col) (μ (4416 + (q + 1)) col))
set_option maxHeartbeats 4000000 in
set_option maxRecDepth 100000 in
theorem m_isLeaf (l : Launch) (dC : Nat → ClassId) (dI : Nat → Nat → Nat) (cI cZ cII cIII : ClassId) (h0 sz : Nat) (μ : va_M) (q : Int) (hO : stOK μ) (hq : 0 ≤ q ∧ q < μ 0 39) : Met l yX10_isLeaf (Cond.code yX10_isLeaf cX10_isLeaf 2 (some .boolean) :: wsG) ({ frames := 1, cells := 0, slots := 0, locals := 14 } : Room) (va_Pc [.ref h0, .int (iZ (q))] (fun U => U.heap.size = sz ∧ va_P (dC, dI) vwCl (fw (mE cI cZ cII cIII h0) h0 6325 μ) U.heap ∧ va_K (dC, dI) vwCl (mT cI cZ cII cIII) U)) (va_Qi (fun (r9 : Int32) (u : va_M × Int) => r9 = iZ u.2 ∧ (fun (u : va_M) (r : Int) => u = μ ∧ r = if nod μ q.toNat < 3 then 1 else 0) u.1 u.2) (fun u t => va_P (dC, dI) vwCl (fw (mE cI cZ cII cIII h0) h0 6325 u.1) t.heap ∧ va_K (dC, dI) vwCl (mT cI cZ cII cIII) t) (fA h0 6325 sz)) 0 0 (fA h0 6325 sz) := by
  refine Met.ofW (cc := cX10_isLeaf) (maxL := 2) (ret := (some .boolean)) (by decide) rfl ?_
  intro p e s m args below meth c s₁ B hml hv
  obtain ⟨rfl, hsz, hP, hK⟩ := hv
  have hx := B.exec
  have hb := B.bytes
  have hr := B.returns
  have hts : ∀ w ∈ wsG, w.before _ s = true := hG_of (atoms_spec (ws := (Cond.code yX10_isLeaf cX10_isLeaf 2 (some .boolean) :: wsG)) B.pre)
  have hown : s.vm.findClass RX10 = some m.cls := findClass_of_methodNamed B.named
  have hlocks := B.notSynchronized
  subst hsz
  have hS : va_S (fA h0 6325 s.heap.size) s.heap s.heap [] := va_S.rf
  have hl := lv_entry ([.ref h0, .int (iZ (q))]) (n := 2) (Nat.le_of_ble_eq_true rfl)
  rw [lg_entry_eq]
  generalize (lg_sl ([.ref h0, .int (iZ (q))]) ++ List.replicate (2 - (lg_sl ([.ref h0, .int (iZ (q))])).length) Slot.unset).toArray = ls at hl ⊢
  have hl : lv_has ls 2 [(0, .ref h0), (1, .int (iZ (q)))] := hl
  obtain ⟨o1, o2, o3, o4⟩ := hO
  obtain ⟨⟨n1, n2⟩, n3, n4⟩ := o4 q.toNat (by (first | ((try clear n4); (try clear n3); (try clear n2); (try clear n1); (try clear o4); (try clear o3); (try clear hsz); (try clear s₁); omega) | omega))
  have o39 := o3.2.1
  obtain ⟨c1, c2, c3, c4⟩ := o3.2.2 (μ 4412 q.toNat).toNat (by (first | ((try clear c4); (try clear c3); (try clear c2); (try clear c1); (try clear n4); (try clear n3); (try clear o4); (try clear o3); (try clear o2); (try clear o1); (try clear hsz); (try clear s₁); (try clear hq); omega) | omega))
  have c1 : 0 ≤ μ 507 (μ 4412 q.toNat).toNat ∧ μ 507 (μ 4412 q.toNat).toNat ≤ 4 := c1
  have c2 : -1 ≤ μ 578 (μ 4412 q.toNat).toNat ∧ μ 578 (μ 4412 q.toNat).toNat < 200 := c2
  refine lv_aload_n hx hb dX10_isLeaf_0 rfl (lv_at hl 0 rfl) ?_
  refine fz_get (D := (dC, dI)) (ci := 10) (v := .ref (h0 + 506)) (C := RX10) (T := TX10) (N := 53) hx hb hts inG10 hown hK hP (k := 0) (by decide) (F := mF h0) mE_obj rfl 18 (by decide) (hts _ k1184) (fun _ h9 => h9) rfl dX10_isLeaf_1 ?_
  refine lv_iconst (v := iZ 0) hx hb dX10_isLeaf_4 rfl ?_
  refine fz_ald (k := 506) (n := 70) (k2 := (507 + 0)) hx hb hK hP 2 rfl (by decide) mE_sort rfl ⟨by (first | ((try clear c2); (try clear c1); (try clear c4); (try clear c3); (try clear o39); (try clear n4); (try clear n3); (try clear n2); (try clear n1); (try clear o4); (try clear o3); (try clear o2); (try clear o1); (try clear hsz); (try clear s₁); (try clear hq); omega) | omega), by (first | ((try clear c2); (try clear c1); (try clear c4); (try clear c3); (try clear o39); (try clear n4); (try clear n3); (try clear n2); (try clear n1); (try clear o4); (try clear o3); (try clear o2); (try clear o1); (try clear hsz); (try clear s₁); (try clear hq); omega) | omega)⟩ (by decide) (if_pos (by (first | ((try clear c2); (try clear c1); (try clear c4); (try clear c3); (try clear o39); (try clear n4); (try clear n3); (try clear n2); (try clear n1); (try clear o4); (try clear o3); (try clear o2); (try clear o1); (try clear hsz); (try clear s₁); (try clear hq); omega) | omega))) dX10_isLeaf_5 ?_
  refine lv_aload_n hx hb dX10_isLeaf_6 rfl (lv_at hl 0 rfl) ?_
  refine fz_get (D := (dC, dI)) (ci := 10) (v := .ref (h0 + 4412)) (C := RX10) (T := TX10) (N := 53) hx hb hts inG10 hown hK hP (k := 0) (by decide) (F := mF h0) mE_obj rfl 40 (by decide) (hts _ k1206) (fun _ h9 => h9) rfl dX10_isLeaf_7 ?_
  refine lv_iload_n hx hb dX10_isLeaf_10 rfl (lv_at hl 1 rfl) ?_
  refine fz_ld (k := 4412) (n := 1900) hx hb hK hP 0 (by decide) mE_stateNode rfl ⟨by (first | ((try clear c2); (try clear c1); (try clear c4); (try clear c3); (try clear o39); (try clear n4); (try clear n3); (try clear n2); (try clear n1); (try clear o4); (try clear o3); (try clear o2); (try clear o1); (try clear hsz); (try clear s₁); omega) | omega), by (first | ((try clear c2); (try clear c1); (try clear c4); (try clear c3); (try clear o39); (try clear n4); (try clear n3); (try clear n2); (try clear n1); (try clear o4); (try clear o3); (try clear hsz); (try clear s₁); omega) | omega)⟩ (by decide) dX10_isLeaf_11 ?_
  refine fz_ld (k := (507 + 0)) (n := 900) hx hb hK hP 0 (by (first | ((try clear c2); (try clear c1); (try clear c4); (try clear c3); (try clear o39); (try clear n4); (try clear n3); (try clear n2); (try clear n1); (try clear o4); (try clear o3); (try clear o2); (try clear o1); (try clear hsz); (try clear s₁); (try clear hq); omega) | omega)) (mE_sortR (by (first | ((try clear c2); (try clear c1); (try clear c4); (try clear c3); (try clear o39); (try clear n4); (try clear n3); (try clear n2); (try clear n1); (try clear o4); (try clear o3); (try clear o2); (try clear o1); (try clear hsz); (try clear s₁); (try clear hq); omega) | omega))) rfl ⟨by (first | ((try clear c2); (try clear c1); (try clear c4); (try clear c3); (try clear o39); (try clear n4); (try clear n3); (try clear n2); (try clear o4); (try clear o3); (try clear o2); (try clear o1); (try clear hsz); (try clear s₁); (try clear hq); omega) | omega), by (first | ((try clear c2); (try clear c1); (try clear c4); (try clear c3); (try clear n4); (try clear n3); (try clear n1); (try clear o4); (try clear o3); (try clear o2); (try clear o1); (try clear hsz); (try clear s₁); (try clear hq); omega) | omega)⟩ (by decide) dX10_isLeaf_12 ?_
  rw [show μ (507 + 0) (μ 4412 (q).toNat).toNat = μ 507 (μ 4412 q.toNat).toNat from (by rfl)]
  refine lv_iconst (v := iZ 3) hx hb dX10_isLeaf_13 rfl ?_
  refine fz_icmp_ge (tgt := 21) (by constructor <;> (first | ((try clear c2); (try clear c4); (try clear c3); (try clear o39); (try clear n4); (try clear n3); (try clear n2); (try clear n1); (try clear o4); (try clear o3); (try clear o2); (try clear o1); (try clear hsz); (try clear s₁); (try clear hq); omega) | omega)) (by decide) hx hb dX10_isLeaf_14 (by decide) (fun c14_ => ?_) (fun c14_ => ?_)
  · refine lv_iconst (v := iZ 0) hx hb dX10_isLeaf_21 rfl ?_
    exact W.zret (v := iZ (0)) hx hb hr (by decide +kernel) (fun t9 ht9 hW9 => ⟨⟨iZ (0), (μ, 0), rfl, ⟨rfl, (by
                dsimp only
                exact ⟨rfl, by unfold nod; split <;> first | rfl | (first | ((try clear c2); (try clear c4); (try clear c3); (try clear o39); (try clear n4); (try clear n3); (try clear n2); (try clear n1); (try clear o4); (try clear o3); (try clear o2); (try clear o1); (try clear hsz); (try clear s₁); (try clear hq); omega) | omega)⟩)⟩, by rw [ht9]; exact hP, va_K.moved hW9.alike hK⟩, hS.F ht9⟩) hS.2.2 dX10_isLeaf_22
  · refine lv_iconst (v := iZ 1) hx hb dX10_isLeaf_17 rfl ?_
    refine lv_goto (tgt := 22) hx hb dX10_isLeaf_18 (by decide) ?_
    exact W.zret (v := iZ (1)) hx hb hr (by decide +kernel) (fun t9 ht9 hW9 => ⟨⟨iZ (1), (μ, 1), rfl, ⟨rfl, (by
                dsimp only
                exact ⟨rfl, by unfold nod; split <;> first | rfl | omega⟩)⟩, by rw [ht9]; exact hP, va_K.moved hW9.alike hK⟩, hS.F ht9⟩) hS.2.2 dX10_isLeaf_22
set_option maxHeartbeats 4000000 in
set_option maxRecDepth 100000 in
theorem m_isOption (l : Launch) (dC : Nat → ClassId) (dI : Nat → Nat → Nat) (cI cZ cII cIII : ClassId) (h0 sz : Nat) (μ : va_M) (q : Int) (hO : stOK μ) (hq : 0 ≤ q ∧ q < μ 0 39) : Met l yX10_isOption (Cond.code yX10_isOption cX10_isOption 2 (some .boolean) :: wsG) ({ frames := 1, cells := 0, slots := 0, locals := 14 } : Room) (va_Pc [.ref h0, .int (iZ (q))] (fun U => U.heap.size = sz ∧ va_P (dC, dI) vwCl (fw (mE cI cZ cII cIII h0) h0 6325 μ) U.heap ∧ va_K (dC, dI) vwCl (mT cI cZ cII cIII) U)) (va_Qi (fun (r9 : Int32) (u : va_M × Int) => r9 = iZ u.2 ∧ (fun (u : va_M) (r : Int) => u = μ ∧ r = if nod μ q.toNat = 3 then 1 else 0) u.1 u.2) (fun u t => va_P (dC, dI) vwCl (fw (mE cI cZ cII cIII h0) h0 6325 u.1) t.heap ∧ va_K (dC, dI) vwCl (mT cI cZ cII cIII) t) (fA h0 6325 sz)) 0 0 (fA h0 6325 sz) := by
  refine Met.ofW (cc := cX10_isOption) (maxL := 2) (ret := (some .boolean)) (by decide) rfl ?_
  intro p e s m args below meth c s₁ B hml hv
  obtain ⟨rfl, hsz, hP, hK⟩ := hv
  have hx := B.exec
  have hb := B.bytes
  have hr := B.returns
  have hts : ∀ w ∈ wsG, w.before _ s = true := hG_of (atoms_spec (ws := (Cond.code yX10_isOption cX10_isOption 2 (some .boolean) :: wsG)) B.pre)
  have hown : s.vm.findClass RX10 = some m.cls := findClass_of_methodNamed B.named
  have hlocks := B.notSynchronized
  subst hsz
  have hS : va_S (fA h0 6325 s.heap.size) s.heap s.heap [] := va_S.rf
  have hl := lv_entry ([.ref h0, .int (iZ (q))]) (n := 2) (Nat.le_of_ble_eq_true rfl)
  rw [lg_entry_eq]
  generalize (lg_sl ([.ref h0, .int (iZ (q))]) ++ List.replicate (2 - (lg_sl ([.ref h0, .int (iZ (q))])).length) Slot.unset).toArray = ls at hl ⊢
  have hl : lv_has ls 2 [(0, .ref h0), (1, .int (iZ (q)))] := hl
  obtain ⟨o1, o2, o3, o4⟩ := hO
  obtain ⟨⟨n1, n2⟩, n3, n4⟩ := o4 q.toNat (by (first | ((try clear n4); (try clear n3); (try clear n2); (try clear n1); (try clear o4); (try clear o3); (try clear hsz); (try clear s₁); omega) | omega))
  have o39 := o3.2.1
  obtain ⟨c1, c2, c3, c4⟩ := o3.2.2 (μ 4412 q.toNat).toNat (by (first | ((try clear c4); (try clear c3); (try clear c2); (try clear c1); (try clear n4); (try clear n3); (try clear o4); (try clear o3); (try clear o2); (try clear o1); (try clear hsz); (try clear s₁); (try clear hq); omega) | omega))
  have c1 : 0 ≤ μ 507 (μ 4412 q.toNat).toNat ∧ μ 507 (μ 4412 q.toNat).toNat ≤ 4 := c1
  have c2 : -1 ≤ μ 578 (μ 4412 q.toNat).toNat ∧ μ 578 (μ 4412 q.toNat).toNat < 200 := c2
  refine lv_aload_n hx hb dX10_isOption_0 rfl (lv_at hl 0 rfl) ?_
  refine fz_get (D := (dC, dI)) (ci := 10) (v := .ref (h0 + 506)) (C := RX10) (T := TX10) (N := 53) hx hb hts inG10 hown hK hP (k := 0) (by decide) (F := mF h0) mE_obj rfl 18 (by decide) (hts _ k1184) (fun _ h9 => h9) rfl dX10_isOption_1 ?_
  refine lv_iconst (v := iZ 0) hx hb dX10_isOption_4 rfl ?_
  refine fz_ald (k := 506) (n := 70) (k2 := (507 + 0)) hx hb hK hP 2 rfl (by decide) mE_sort rfl ⟨by (first | ((try clear c2); (try clear c1); (try clear c4); (try clear c3); (try clear o39); (try clear n4); (try clear n3); (try clear n2); (try clear n1); (try clear o4); (try clear o3); (try clear o2); (try clear o1); (try clear hsz); (try clear s₁); (try clear hq); omega) | omega), by (first | ((try clear c2); (try clear c1); (try clear c4); (try clear c3); (try clear o39); (try clear n4); (try clear n3); (try clear n2); (try clear n1); (try clear o4); (try clear o3); (try clear o2); (try clear o1); (try clear hsz); (try clear s₁); (try clear hq); omega) | omega)⟩ (by decide) (if_pos (by (first | ((try clear c2); (try clear c1); (try clear c4); (try clear c3); (try clear o39); (try clear n4); (try clear n3); (try clear n2); (try clear n1); (try clear o4); (try clear o3); (try clear o2); (try clear o1); (try clear hsz); (try clear s₁); (try clear hq); omega) | omega))) dX10_isOption_5 ?_
  refine lv_aload_n hx hb dX10_isOption_6 rfl (lv_at hl 0 rfl) ?_
  refine fz_get (D := (dC, dI)) (ci := 10) (v := .ref (h0 + 4412)) (C := RX10) (T := TX10) (N := 53) hx hb hts inG10 hown hK hP (k := 0) (by decide) (F := mF h0) mE_obj rfl 40 (by decide) (hts _ k1206) (fun _ h9 => h9) rfl dX10_isOption_7 ?_
  refine lv_iload_n hx hb dX10_isOption_10 rfl (lv_at hl 1 rfl) ?_
  refine fz_ld (k := 4412) (n := 1900) hx hb hK hP 0 (by decide) mE_stateNode rfl ⟨by (first | ((try clear c2); (try clear c1); (try clear c4); (try clear c3); (try clear o39); (try clear n4); (try clear n3); (try clear n2); (try clear n1); (try clear o4); (try clear o3); (try clear o2); (try clear o1); (try clear hsz); (try clear s₁); omega) | omega), by (first | ((try clear c2); (try clear c1); (try clear c4); (try clear c3); (try clear o39); (try clear n4); (try clear n3); (try clear n2); (try clear n1); (try clear o4); (try clear o3); (try clear hsz); (try clear s₁); omega) | omega)⟩ (by decide) dX10_isOption_11 ?_
  refine fz_ld (k := (507 + 0)) (n := 900) hx hb hK hP 0 (by (first | ((try clear c2); (try clear c1); (try clear c4); (try clear c3); (try clear o39); (try clear n4); (try clear n3); (try clear n2); (try clear n1); (try clear o4); (try clear o3); (try clear o2); (try clear o1); (try clear hsz); (try clear s₁); (try clear hq); omega) | omega)) (mE_sortR (by (first | ((try clear c2); (try clear c1); (try clear c4); (try clear c3); (try clear o39); (try clear n4); (try clear n3); (try clear n2); (try clear n1); (try clear o4); (try clear o3); (try clear o2); (try clear o1); (try clear hsz); (try clear s₁); (try clear hq); omega) | omega))) rfl ⟨by (first | ((try clear c2); (try clear c1); (try clear c4); (try clear c3); (try clear o39); (try clear n4); (try clear n3); (try clear n2); (try clear o4); (try clear o3); (try clear o2); (try clear o1); (try clear hsz); (try clear s₁); (try clear hq); omega) | omega), by (first | ((try clear c2); (try clear c1); (try clear c4); (try clear c3); (try clear n4); (try clear n3); (try clear n1); (try clear o4); (try clear o3); (try clear o2); (try clear o1); (try clear hsz); (try clear s₁); (try clear hq); omega) | omega)⟩ (by decide) dX10_isOption_12 ?_
  rw [show μ (507 + 0) (μ 4412 (q).toNat).toNat = μ 507 (μ 4412 q.toNat).toNat from (by rfl)]
  refine lv_iconst (v := iZ 3) hx hb dX10_isOption_13 rfl ?_
  refine fz_icmp_ne (tgt := 21) (by constructor <;> (first | ((try clear c2); (try clear c4); (try clear c3); (try clear o39); (try clear n4); (try clear n3); (try clear n2); (try clear n1); (try clear o4); (try clear o3); (try clear o2); (try clear o1); (try clear hsz); (try clear s₁); (try clear hq); omega) | omega)) (by decide) hx hb dX10_isOption_14 (by decide) (fun c14_ => ?_) (fun c14_ => ?_)
  · refine lv_iconst (v := iZ 0) hx hb dX10_isOption_21 rfl ?_
    exact W.zret (v := iZ (0)) hx hb hr (by decide +kernel) (fun t9 ht9 hW9 => ⟨⟨iZ (0), (μ, 0), rfl, ⟨rfl, (by
                dsimp only
                exact ⟨rfl, by unfold nod; split <;> first | rfl | (first | ((try clear c2); (try clear c1); (try clear c4); (try clear c3); (try clear o39); (try clear n4); (try clear n3); (try clear n2); (try clear n1); (try clear o4); (try clear o3); (try clear o2); (try clear o1); (try clear hsz); (try clear s₁); (try clear hq); omega) | omega)⟩)⟩, by rw [ht9]; exact hP, va_K.moved hW9.alike hK⟩, hS.F ht9⟩) hS.2.2 dX10_isOption_22
  · refine lv_iconst (v := iZ 1) hx hb dX10_isOption_17 rfl ?_
    refine lv_goto (tgt := 22) hx hb dX10_isOption_18 (by decide) ?_
    exact W.zret (v := iZ (1)) hx hb hr (by decide +kernel) (fun t9 ht9 hW9 => ⟨⟨iZ (1), (μ, 1), rfl, ⟨rfl, (by
                dsimp only
                exact ⟨rfl, by unfold nod; split <;> first | rfl | omega⟩)⟩, by rw [ht9]; exact hP, va_K.moved hW9.alike hK⟩, hS.F ht9⟩) hS.2.2 dX10_isOption_22
set_option maxHeartbeats 4000000 in
set_option maxRecDepth 100000 in
theorem m_takes (l : Launch) (dC : Nat → ClassId) (dI : Nat → Nat → Nat) (cI cZ cII cIII : ClassId) (h0 sz : Nat) (μ : va_M) (q : Int) (k : Int) (hO : stOK μ) (hq : 0 ≤ q ∧ q < μ 0 39) (hk9 : 0 ≤ k ∧ k < 201) (hsr : ∀ j : Nat, j < 201 → inR (μ 3 j)) : Met l yX10_takes (Cond.code yX10_takes cX10_takes 5 (some .boolean) :: wsG) ({ frames := 1, cells := 0, slots := 0, locals := 14 } : Room) (va_Pc [.ref h0, .int (iZ (q)), .int (iZ (k))] (fun U => U.heap.size = sz ∧ va_P (dC, dI) vwCl (fw (mE cI cZ cII cIII h0) h0 6325 μ) U.heap ∧ va_K (dC, dI) vwCl (mT cI cZ cII cIII) U)) (va_Qi (fun (r9 : Int32) (u : va_M × Int) => r9 = iZ u.2 ∧ (fun (u : va_M) (r : Int) => u = μ ∧ ((r = 1 ∧ tkF μ q.toNat k) ∨ (r = 0 ∧ ¬ tkF μ q.toNat k))) u.1 u.2) (fun u t => va_P (dC, dI) vwCl (fw (mE cI cZ cII cIII h0) h0 6325 u.1) t.heap ∧ va_K (dC, dI) vwCl (mT cI cZ cII cIII) t) (fA h0 6325 sz)) 0 0 (fA h0 6325 sz) := by
  refine Met.ofW (cc := cX10_takes) (maxL := 5) (ret := (some .boolean)) (by decide) rfl ?_
  intro p e s m args below meth c s₁ B hml hv
  obtain ⟨rfl, hsz, hP, hK⟩ := hv
  have hx := B.exec
  have hb := B.bytes
  have hr := B.returns
  have hts : ∀ w ∈ wsG, w.before _ s = true := hG_of (atoms_spec (ws := (Cond.code yX10_takes cX10_takes 5 (some .boolean) :: wsG)) B.pre)
  have hown : s.vm.findClass RX10 = some m.cls := findClass_of_methodNamed B.named
  have hlocks := B.notSynchronized
  subst hsz
  have hS : va_S (fA h0 6325 s.heap.size) s.heap s.heap [] := va_S.rf
  have hl := lv_entry ([.ref h0, .int (iZ (q)), .int (iZ (k))]) (n := 5) (Nat.le_of_ble_eq_true rfl)
  rw [lg_entry_eq]
  generalize (lg_sl ([.ref h0, .int (iZ (q)), .int (iZ (k))]) ++ List.replicate (5 - (lg_sl ([.ref h0, .int (iZ (q)), .int (iZ (k))])).length) Slot.unset).toArray = ls at hl ⊢
  have hl : lv_has ls 5 [(0, .ref h0), (1, .int (iZ (q))), (2, .int (iZ (k)))] := hl
  obtain ⟨o1, o2, o3, o4⟩ := hO
  obtain ⟨⟨n1, n2⟩, n3, n4⟩ := o4 q.toNat (by (first | ((try clear n4); (try clear n3); (try clear n2); (try clear n1); (try clear o4); (try clear o3); (try clear hsz); (try clear s₁); (try clear hsr); omega) | omega))
  have o39 := o3.2.1
  obtain ⟨c1, c2, c3, c4⟩ := o3.2.2 (μ 4412 q.toNat).toNat (by (first | ((try clear c4); (try clear c3); (try clear c2); (try clear c1); (try clear n4); (try clear n3); (try clear o4); (try clear o3); (try clear o2); (try clear o1); (try clear hsz); (try clear s₁); (try clear hsr); (try clear hq); omega) | omega))
  have c1 : 0 ≤ μ 507 (μ 4412 q.toNat).toNat ∧ μ 507 (μ 4412 q.toNat).toNat ≤ 4 := c1
  have c2 : -1 ≤ μ 578 (μ 4412 q.toNat).toNat ∧ μ 578 (μ 4412 q.toNat).toNat < 200 := c2
  have h3k := hsr k.toNat (by (first | ((try clear h3k); (try clear c2); (try clear c1); (try clear c4); (try clear c3); (try clear o39); (try clear n4); (try clear n3); (try clear n2); (try clear n1); (try clear o4); (try clear o3); (try clear o2); (try clear o1); (try clear hsz); (try clear s₁); (try clear hsr); (try clear hq); omega) | omega))
  refine lv_aload_n hx hb dX10_takes_0 rfl (lv_at hl 0 rfl) ?_
  refine fz_get (D := (dC, dI)) (ci := 10) (v := .ref (h0 + 4412)) (C := RX10) (T := TX10) (N := 53) hx hb hts inG10 hown hK hP (k := 0) (by decide) (F := mF h0) mE_obj rfl 40 (by decide) (hts _ k1206) (fun _ h9 => h9) rfl dX10_takes_1 ?_
  refine lv_iload_n hx hb dX10_takes_4 rfl (lv_at hl 1 rfl) ?_
  refine fz_ld (k := 4412) (n := 1900) hx hb hK hP 0 (by decide) mE_stateNode rfl ⟨by (first | ((try clear h3k); (try clear c2); (try clear c1); (try clear c4); (try clear c3); (try clear o39); (try clear n4); (try clear n3); (try clear n2); (try clear n1); (try clear o4); (try clear o3); (try clear o2); (try clear o1); (try clear hsz); (try clear s₁); (try clear hsr); omega) | omega), by (first | ((try clear h3k); (try clear c2); (try clear c1); (try clear c4); (try clear c3); (try clear o39); (try clear n4); (try clear n3); (try clear n2); (try clear n1); (try clear o4); (try clear o3); (try clear hsz); (try clear s₁); (try clear hsr); omega) | omega)⟩ (by decide) dX10_takes_5 ?_
  refine lv_istore_n (lv' := [(3, .int (iZ (μ 4412 (q).toNat))), (0, .ref h0), (1, .int (iZ (q))), (2, .int (iZ (k)))]) hx hb dX10_takes_6 rfl hl (by decide) rfl (fun ls hl => ?_)
  refine lv_aload_n hx hb dX10_takes_7 rfl (lv_at hl 1 rfl) ?_
  refine fz_get (D := (dC, dI)) (ci := 10) (v := .ref (h0 + 506)) (C := RX10) (T := TX10) (N := 53) hx hb hts inG10 hown hK hP (k := 0) (by decide) (F := mF h0) mE_obj rfl 18 (by decide) (hts _ k1184) (fun _ h9 => h9) rfl dX10_takes_8 ?_
  refine lv_iconst (v := iZ 0) hx hb dX10_takes_11 rfl ?_
  refine fz_ald (k := 506) (n := 70) (k2 := (507 + 0)) hx hb hK hP 2 rfl (by decide) mE_sort rfl ⟨by (first | ((try clear h3k); (try clear c2); (try clear c1); (try clear c4); (try clear c3); (try clear o39); (try clear n4); (try clear n3); (try clear n2); (try clear n1); (try clear o4); (try clear o3); (try clear o2); (try clear o1); (try clear hsz); (try clear s₁); (try clear hsr); (try clear hq); omega) | omega), by (first | ((try clear h3k); (try clear c2); (try clear c1); (try clear c4); (try clear c3); (try clear o39); (try clear n4); (try clear n3); (try clear n2); (try clear n1); (try clear o4); (try clear o3); (try clear o2); (try clear o1); (try clear hsz); (try clear s₁); (try clear hsr); (try clear hq); omega) | omega)⟩ (by decide) (if_pos (by (first | ((try clear h3k); (try clear c2); (try clear c1); (try clear c4); (try clear c3); (try clear o39); (try clear n4); (try clear n3); (try clear n2); (try clear n1); (try clear o4); (try clear o3); (try clear o2); (try clear o1); (try clear hsz); (try clear s₁); (try clear hsr); (try clear hq); omega) | omega))) dX10_takes_12 ?_
  refine lv_iload_n hx hb dX10_takes_13 rfl (lv_at hl 0 rfl) ?_
  refine fz_ld (k := (507 + 0)) (n := 900) hx hb hK hP 0 (by (first | ((try clear h3k); (try clear c2); (try clear c1); (try clear c4); (try clear c3); (try clear o39); (try clear n4); (try clear n3); (try clear n2); (try clear n1); (try clear o4); (try clear o3); (try clear o2); (try clear o1); (try clear hsz); (try clear s₁); (try clear hsr); (try clear hq); omega) | omega)) (mE_sortR (by (first | ((try clear h3k); (try clear c2); (try clear c1); (try clear c4); (try clear c3); (try clear o39); (try clear n4); (try clear n3); (try clear n2); (try clear n1); (try clear o4); (try clear o3); (try clear o2); (try clear o1); (try clear hsz); (try clear s₁); (try clear hsr); (try clear hq); omega) | omega))) rfl ⟨by (first | ((try clear h3k); (try clear c2); (try clear c1); (try clear c4); (try clear c3); (try clear o39); (try clear n4); (try clear n3); (try clear n2); (try clear o4); (try clear o3); (try clear o2); (try clear o1); (try clear hsz); (try clear s₁); (try clear hsr); (try clear hq); omega) | omega), by (first | ((try clear h3k); (try clear c2); (try clear c1); (try clear c4); (try clear c3); (try clear n4); (try clear n3); (try clear n1); (try clear o4); (try clear o3); (try clear o2); (try clear o1); (try clear hsz); (try clear s₁); (try clear hsr); (try clear hq); omega) | omega)⟩ (by decide) dX10_takes_14 ?_
  rw [show μ (507 + 0) (μ 4412 (q).toNat).toNat = μ 507 (μ 4412 q.toNat).toNat from (by rfl)]
  refine lv_istore (lv' := [(4, .int (iZ (μ 507 (μ 4412 q.toNat).toNat))), (3, .int (iZ (μ 4412 (q).toNat))), (0, .ref h0), (1, .int (iZ (q))), (2, .int (iZ (k)))]) hx hb dX10_takes_15 hl (by decide) rfl (fun ls hl => ?_)
  refine lv_iload hx hb dX10_takes_17 (lv_at hl 0 rfl) ?_
  refine lv_iconst (v := iZ 2) hx hb dX10_takes_19 rfl ?_
  refine fz_icmp_ne (tgt := 41) (by constructor <;> (first | ((try clear h3k); (try clear c2); (try clear c4); (try clear c3); (try clear o39); (try clear n4); (try clear n3); (try clear n2); (try clear n1); (try clear o4); (try clear o3); (try clear o2); (try clear o1); (try clear hsz); (try clear s₁); (try clear hsr); (try clear hq); omega) | omega)) (by decide) hx hb dX10_takes_20 (by decide) (fun c20_ => ?_) (fun c20_ => ?_)
  · refine lv_aload_n hx hb dX10_takes_41 rfl (lv_at hl 2 rfl) ?_
    refine fz_get (D := (dC, dI)) (ci := 10) (v := .ref (h0 + 577)) (C := RX10) (T := TX10) (N := 53) hx hb hts inG10 hown hK hP (k := 0) (by decide) (F := mF h0) mE_obj rfl 19 (by decide) (hts _ k1185) (fun _ h9 => h9) rfl dX10_takes_42 ?_
    refine lv_iconst (v := iZ 0) hx hb dX10_takes_45 rfl ?_
    refine fz_ald (k := 577) (n := 70) (k2 := (578 + 0)) hx hb hK hP 2 rfl (by decide) mE_token rfl ⟨by (first | ((try clear c20_); (try clear h3k); (try clear c2); (try clear c1); (try clear c4); (try clear c3); (try clear o39); (try clear n4); (try clear n3); (try clear n2); (try clear n1); (try clear o4); (try clear o3); (try clear o2); (try clear o1); (try clear hsz); (try clear s₁); (try clear hsr); (try clear hq); omega) | omega), by (first | ((try clear c20_); (try clear h3k); (try clear c2); (try clear c1); (try clear c4); (try clear c3); (try clear o39); (try clear n4); (try clear n3); (try clear n2); (try clear n1); (try clear o4); (try clear o3); (try clear o2); (try clear o1); (try clear hsz); (try clear s₁); (try clear hsr); (try clear hq); omega) | omega)⟩ (by decide) (if_pos (by (first | ((try clear c20_); (try clear h3k); (try clear c2); (try clear c1); (try clear c4); (try clear c3); (try clear o39); (try clear n4); (try clear n3); (try clear n2); (try clear n1); (try clear o4); (try clear o3); (try clear o2); (try clear o1); (try clear hsz); (try clear s₁); (try clear hsr); (try clear hq); omega) | omega))) dX10_takes_46 ?_
    refine lv_iload_n hx hb dX10_takes_47 rfl (lv_at hl 1 rfl) ?_
    refine fz_ld (k := (578 + 0)) (n := 900) hx hb hK hP 0 (by (first | ((try clear c20_); (try clear h3k); (try clear c2); (try clear c1); (try clear c4); (try clear c3); (try clear o39); (try clear n4); (try clear n3); (try clear n2); (try clear n1); (try clear o4); (try clear o3); (try clear o2); (try clear o1); (try clear hsz); (try clear s₁); (try clear hsr); (try clear hq); omega) | omega)) (mE_tokenR (by (first | ((try clear c20_); (try clear h3k); (try clear c2); (try clear c1); (try clear c4); (try clear c3); (try clear o39); (try clear n4); (try clear n3); (try clear n2); (try clear n1); (try clear o4); (try clear o3); (try clear o2); (try clear o1); (try clear hsz); (try clear s₁); (try clear hsr); (try clear hq); omega) | omega))) rfl ⟨by (first | ((try clear c20_); (try clear h3k); (try clear c2); (try clear c1); (try clear c4); (try clear c3); (try clear o39); (try clear n4); (try clear n3); (try clear n2); (try clear o4); (try clear o3); (try clear o2); (try clear o1); (try clear hsz); (try clear s₁); (try clear hsr); (try clear hq); omega) | omega), by (first | ((try clear c20_); (try clear h3k); (try clear c2); (try clear c1); (try clear c4); (try clear c3); (try clear n4); (try clear n3); (try clear n1); (try clear o4); (try clear o3); (try clear o2); (try clear o1); (try clear hsz); (try clear s₁); (try clear hsr); (try clear hq); omega) | omega)⟩ (by decide) dX10_takes_48 ?_
    rw [show μ (578 + 0) (μ 4412 (q).toNat).toNat = μ 578 (μ 4412 q.toNat).toNat from (by rfl)]
    refine lv_iload_n hx hb dX10_takes_49 rfl (lv_at hl 4 rfl) ?_
    refine fz_icmp_ne (tgt := 57) (by constructor <;> (first | ((try clear c20_); (try clear h3k); (try clear c1); (try clear c4); (try clear c3); (try clear o39); (try clear n4); (try clear n3); (try clear n2); (try clear n1); (try clear o4); (try clear o3); (try clear o2); (try clear o1); (try clear hsz); (try clear s₁); (try clear hsr); (try clear hq); omega) | omega)) (by constructor <;> (first | ((try clear c20_); (try clear h3k); (try clear c2); (try clear c1); (try clear c4); (try clear c3); (try clear o39); (try clear n4); (try clear n3); (try clear n2); (try clear n1); (try clear o4); (try clear o3); (try clear o2); (try clear o1); (try clear hsz); (try clear s₁); (try clear hsr); (try clear hq); omega) | omega)) hx hb dX10_takes_50 (by decide) (fun c50_ => ?_) (fun c50_ => ?_)
    · refine lv_iconst (v := iZ 0) hx hb dX10_takes_57 rfl ?_
      exact W.zret (v := iZ (0)) hx hb hr (by decide +kernel) (fun t9 ht9 hW9 => ⟨⟨iZ (0), (μ, 0), rfl, ⟨rfl, (by
                    dsimp only
                    refine ⟨rfl, ?_⟩
                    have e : tkF μ q.toNat k = (if μ 507 (μ 4412 q.toNat).toNat = 2 then μ 3 k.toNat = 2 else μ 578 (μ 4412 q.toNat).toNat = k) := rfl
                    rw [e]
                    first | (rw [if_pos (by omega)]; omega) | (rw [if_neg (by (first | ((try clear c50_); (try clear h3k); (try clear c2); (try clear c1); (try clear c4); (try clear c3); (try clear o39); (try clear n4); (try clear n3); (try clear n2); (try clear n1); (try clear o4); (try clear o3); (try clear o2); (try clear o1); (try clear hsz); (try clear s₁); (try clear hsr); (try clear hq); omega) | omega))]; (first | ((try clear c20_); (try clear h3k); (try clear c2); (try clear c1); (try clear c4); (try clear c3); (try clear o39); (try clear n4); (try clear n3); (try clear n2); (try clear n1); (try clear o4); (try clear o3); (try clear o2); (try clear o1); (try clear hsz); (try clear s₁); (try clear hsr); (try clear hq); omega) | omega)))⟩, by rw [ht9]; exact hP, va_K.moved hW9.alike hK⟩, hS.F ht9⟩) hS.2.2 dX10_takes_58
    · refine lv_iconst (v := iZ 1) hx hb dX10_takes_53 rfl ?_
      refine lv_goto (tgt := 58) hx hb dX10_takes_54 (by decide) ?_
      exact W.zret (v := iZ (1)) hx hb hr (by decide +kernel) (fun t9 ht9 hW9 => ⟨⟨iZ (1), (μ, 1), rfl, ⟨rfl, (by
                    dsimp only
                    refine ⟨rfl, ?_⟩
                    have e : tkF μ q.toNat k = (if μ 507 (μ 4412 q.toNat).toNat = 2 then μ 3 k.toNat = 2 else μ 578 (μ 4412 q.toNat).toNat = k) := rfl
                    rw [e]
                    first | (rw [if_pos (by omega)]; omega) | (rw [if_neg (by (first | ((try clear c50_); (try clear h3k); (try clear c2); (try clear c1); (try clear c4); (try clear c3); (try clear o39); (try clear n4); (try clear n3); (try clear n2); (try clear n1); (try clear o4); (try clear o3); (try clear o2); (try clear o1); (try clear hsz); (try clear s₁); (try clear hsr); (try clear hq); omega) | omega))]; (first | ((try clear c20_); (try clear h3k); (try clear c2); (try clear c1); (try clear c4); (try clear c3); (try clear o39); (try clear n4); (try clear n3); (try clear n2); (try clear n1); (try clear o4); (try clear o3); (try clear o2); (try clear o1); (try clear hsz); (try clear s₁); (try clear hsr); (try clear hq); omega) | omega)))⟩, by rw [ht9]; exact hP, va_K.moved hW9.alike hK⟩, hS.F ht9⟩) hS.2.2 dX10_takes_58
  · refine lv_aload_n hx hb dX10_takes_23 rfl (lv_at hl 2 rfl) ?_
    refine fz_get (D := (dC, dI)) (ci := 10) (v := .ref (h0 + 3)) (C := RX10) (T := TX10) (N := 53) hx hb hts inG10 hown hK hP (k := 0) (by decide) (F := mF h0) mE_obj rfl 11 (by decide) (hts _ k1177) (fun _ h9 => h9) rfl dX10_takes_24 ?_
    refine lv_iload_n hx hb dX10_takes_27 rfl (lv_at hl 4 rfl) ?_
    refine fz_ld (k := 3) (n := 201) hx hb hK hP 0 (by decide) mE_tokenSort rfl ⟨by (first | ((try clear c20_); (try clear h3k); (try clear c2); (try clear c1); (try clear c4); (try clear c3); (try clear o39); (try clear n4); (try clear n3); (try clear n2); (try clear n1); (try clear o4); (try clear o3); (try clear o2); (try clear o1); (try clear hsz); (try clear s₁); (try clear hsr); (try clear hq); omega) | omega), by (first | ((try clear c20_); (try clear h3k); (try clear c2); (try clear c1); (try clear c4); (try clear c3); (try clear o39); (try clear n4); (try clear n3); (try clear n2); (try clear n1); (try clear o4); (try clear o3); (try clear o2); (try clear o1); (try clear hsz); (try clear s₁); (try clear hsr); (try clear hq); omega) | omega)⟩ (by decide) dX10_takes_28 ?_
    refine lv_iconst (v := iZ 2) hx hb dX10_takes_29 rfl ?_
    refine fz_icmp_ne (tgt := 37) (by constructor <;> (first | ((try clear c20_); (try clear c2); (try clear c1); (try clear c4); (try clear c3); (try clear o39); (try clear n4); (try clear n3); (try clear n2); (try clear n1); (try clear o4); (try clear o3); (try clear o2); (try clear o1); (try clear hsz); (try clear s₁); (try clear hsr); (try clear hq); omega) | omega)) (by decide) hx hb dX10_takes_30 (by decide) (fun c30_ => ?_) (fun c30_ => ?_)
    · refine lv_iconst (v := iZ 0) hx hb dX10_takes_37 rfl ?_
      refine lv_goto (tgt := 58) hx hb dX10_takes_38 (by decide) ?_
      exact W.zret (v := iZ (0)) hx hb hr (by decide +kernel) (fun t9 ht9 hW9 => ⟨⟨iZ (0), (μ, 0), rfl, ⟨rfl, (by
                    dsimp only
                    refine ⟨rfl, ?_⟩
                    have e : tkF μ q.toNat k = (if μ 507 (μ 4412 q.toNat).toNat = 2 then μ 3 k.toNat = 2 else μ 578 (μ 4412 q.toNat).toNat = k) := rfl
                    rw [e]
                    first | (rw [if_pos (by (first | ((try clear c30_); (try clear h3k); (try clear c2); (try clear c1); (try clear c4); (try clear c3); (try clear o39); (try clear n4); (try clear n3); (try clear n2); (try clear n1); (try clear o4); (try clear o3); (try clear o2); (try clear o1); (try clear hsz); (try clear s₁); (try clear hsr); (try clear hq); omega) | omega))]; (first | ((try clear c20_); (try clear h3k); (try clear c2); (try clear c1); (try clear c4); (try clear c3); (try clear o39); (try clear n4); (try clear n3); (try clear n2); (try clear n1); (try clear o4); (try clear o3); (try clear o2); (try clear o1); (try clear hsz); (try clear s₁); (try clear hsr); (try clear hq); omega) | omega)) | (rw [if_neg (by omega)]; omega))⟩, by rw [ht9]; exact hP, va_K.moved hW9.alike hK⟩, hS.F ht9⟩) hS.2.2 dX10_takes_58
    · refine lv_iconst (v := iZ 1) hx hb dX10_takes_33 rfl ?_
      refine lv_goto (tgt := 58) hx hb dX10_takes_34 (by decide) ?_
      exact W.zret (v := iZ (1)) hx hb hr (by decide +kernel) (fun t9 ht9 hW9 => ⟨⟨iZ (1), (μ, 1), rfl, ⟨rfl, (by
                    dsimp only
                    refine ⟨rfl, ?_⟩
                    have e : tkF μ q.toNat k = (if μ 507 (μ 4412 q.toNat).toNat = 2 then μ 3 k.toNat = 2 else μ 578 (μ 4412 q.toNat).toNat = k) := rfl
                    rw [e]
                    first | (rw [if_pos (by (first | ((try clear c30_); (try clear h3k); (try clear c2); (try clear c1); (try clear c4); (try clear c3); (try clear o39); (try clear n4); (try clear n3); (try clear n2); (try clear n1); (try clear o4); (try clear o3); (try clear o2); (try clear o1); (try clear hsz); (try clear s₁); (try clear hsr); (try clear hq); omega) | omega))]; (first | ((try clear c20_); (try clear h3k); (try clear c2); (try clear c1); (try clear c4); (try clear c3); (try clear o39); (try clear n4); (try clear n3); (try clear n2); (try clear n1); (try clear o4); (try clear o3); (try clear o2); (try clear o1); (try clear hsz); (try clear s₁); (try clear hsr); (try clear hq); omega) | omega)) | (rw [if_neg (by omega)]; omega))⟩, by rw [ht9]; exact hP, va_K.moved hW9.alike hK⟩, hS.F ht9⟩) hS.2.2 dX10_takes_58
set_option maxHeartbeats 4000000 in
set_option maxRecDepth 100000 in
theorem m_waysFrom (l : Launch) (dC : Nat → ClassId) (dI : Nat → Nat → Nat) (cI cZ cII cIII : ClassId) (h0 sz : Nat) (μ : va_M) (q : Int) (col : Int) (tk : Int) (hO : stOK μ) (hq : 0 ≤ q ∧ q < μ 0 39) (hcol : 0 ≤ col ∧ col < 62) (hcan : ∀ x : Nat, (x : Int) ≤ μ 0 39 → 0 ≤ μ (4416 + x) col.toNat ∧ μ (4416 + x) col.toNat ≤ 1000000000) : Met l yX10_waysFrom (Cond.code yX10_waysFrom cX10_waysFrom 4 (some .int) :: wsG) ({ frames := 3, cells := 0, slots := 0, locals := 56 } : Room) (va_Pc [.ref h0, .int (iZ (q)), .int (iZ (col)), .int (iZ (tk))] (fun U => U.heap.size = sz ∧ va_P (dC, dI) vwCl (fw (mE cI cZ cII cIII h0) h0 6325 μ) U.heap ∧ va_K (dC, dI) vwCl (mT cI cZ cII cIII) U)) (va_Qi (fun (r9 : Int32) (u : va_M × Int) => r9 = iZ u.2 ∧ (fun (u : va_M) (r : Int) => u = μ ∧ r = wF μ q.toNat col.toNat tk) u.1 u.2) (fun u t => va_P (dC, dI) vwCl (fw (mE cI cZ cII cIII h0) h0 6325 u.1) t.heap ∧ va_K (dC, dI) vwCl (mT cI cZ cII cIII) t) (fA h0 6325 sz)) 0 0 (fA h0 6325 sz) := by
  refine Met.ofW (cc := cX10_waysFrom) (maxL := 4) (ret := (some .int)) (by decide) rfl ?_
  intro p e s m args below meth c s₁ B hml hv
  obtain ⟨rfl, hsz, hP, hK⟩ := hv
  have hx := B.exec
  have hb := B.bytes
  have hr := B.returns
  have hts : ∀ w ∈ wsG, w.before _ s = true := hG_of (atoms_spec (ws := (Cond.code yX10_waysFrom cX10_waysFrom 4 (some .int) :: wsG)) B.pre)
  have hown : s.vm.findClass RX10 = some m.cls := findClass_of_methodNamed B.named
  have hlocks := B.notSynchronized
  subst hsz
  have hS : va_S (fA h0 6325 s.heap.size) s.heap s.heap [] := va_S.rf
  have hl := lv_entry ([.ref h0, .int (iZ (q)), .int (iZ (col)), .int (iZ (tk))]) (n := 4) (Nat.le_of_ble_eq_true rfl)
  rw [lg_entry_eq]
  generalize (lg_sl ([.ref h0, .int (iZ (q)), .int (iZ (col)), .int (iZ (tk))]) ++ List.replicate (4 - (lg_sl ([.ref h0, .int (iZ (q)), .int (iZ (col)), .int (iZ (tk))])).length) Slot.unset).toArray = ls at hl ⊢
  have hl : lv_has ls 4 [(0, .ref h0), (1, .int (iZ (q))), (2, .int (iZ (col))), (3, .int (iZ (tk)))] := hl
  have hO9 := hO
  obtain ⟨o1, o2, o3, o4⟩ := hO
  obtain ⟨⟨n1, n2⟩, n3, n4⟩ := o4 q.toNat (by (first | ((try clear n4); (try clear n3); (try clear n2); (try clear n1); (try clear o4); (try clear o3); (try clear hO9); (try clear hsz); (try clear s₁); (try clear hcan); (try clear hcol); omega) | omega))
  have o39 := o3.2.1
  obtain ⟨c1, c2, c3, c4⟩ := o3.2.2 (μ 4412 q.toNat).toNat (by (first | ((try clear c4); (try clear c3); (try clear c2); (try clear c1); (try clear n4); (try clear n3); (try clear o4); (try clear o3); (try clear o2); (try clear o1); (try clear hO9); (try clear hsz); (try clear s₁); (try clear hcan); (try clear hcol); (try clear hq); omega) | omega))
  have c1 : 0 ≤ μ 507 (μ 4412 q.toNat).toNat ∧ μ 507 (μ 4412 q.toNat).toNat ≤ 4 := c1
  have c2 : -1 ≤ μ 578 (μ 4412 q.toNat).toNat ∧ μ 578 (μ 4412 q.toNat).toNat < 200 := c2
  have d1 := hcan (q.toNat + 1) (by (first | ((try clear d1); (try clear c2); (try clear c1); (try clear c4); (try clear c3); (try clear o39); (try clear n4); (try clear n3); (try clear n2); (try clear n1); (try clear o4); (try clear o3); (try clear hO9); (try clear hsz); (try clear s₁); (try clear hcan); (try clear hcol); omega) | omega))
  have eq1 : (q + 1).toNat = q.toNat + 1 := by (first | ((try clear eq1); (try clear d1); (try clear c2); (try clear c1); (try clear c4); (try clear c3); (try clear o39); (try clear n4); (try clear n3); (try clear n2); (try clear n1); (try clear o4); (try clear o3); (try clear o2); (try clear o1); (try clear hO9); (try clear hsz); (try clear s₁); (try clear hcan); (try clear hcol); omega) | omega)
  have h9 : 3 ≤ nod μ q.toNat → 0 ≤ μ 4413 q.toNat ∧ μ 4413 q.toNat < μ 0 39 := n4
  have c9 : 0 ≤ nod μ q.toNat ∧ nod μ q.toNat ≤ 4 := c1
  refine lv_aload_n hx hb dX10_waysFrom_0 rfl (lv_at hl 0 rfl) ?_
  refine lv_iload_n hx hb dX10_waysFrom_1 rfl (lv_at hl 1 rfl) ?_
  refine va_calli (va_runV (As := [.int (iZ (q))]) (rest := []) ⟨hx, hb, hml, hown, hts⟩ (m_isLeaf l dC dI cI cZ cII cIII h0 s.heap.size μ (q) (by first | assumption | omega | exact ⟨by omega, by omega⟩) (by first | assumption | omega | exact ⟨by omega, by omega⟩)) (cwV 1 hts (gV_G k1512 k1514 ks_yX10_isLeaf k13 k1515) rfl rfl rfl (by decide +kernel) ⟨Nat.le_of_ble_eq_true rfl, Nat.le_of_ble_eq_true rfl⟩) ⟨fun a U g mk q => by obtain ⟨q0, q1, qP, qK⟩ := q; exact ⟨q0, q1, qP, va_K.moved (u := U) (U := U.calling g mk a) (Vm.Alike.refl U.vm) qK⟩, va_recv hK hP (ci := 10) (q0 := 0) rfl ((fw_get (by decide)).trans (by rw [mE_obj]; rfl)), fun U hU hW => ⟨rfl, by rw [hU], by rw [hU]; exact hP, va_K.moved hW.alike hK⟩⟩ rfl rfl hl.1 rfl (lv_room (Nat.le_of_ble_eq_true rfl)) dX10_waysFrom_2 ⟨Nat.le_of_ble_eq_true rfl, Nat.le_of_ble_eq_true rfl⟩) hS (fun q _ h => fA_le hS.1 q h) (fA_le hS.1) (fun r9 u9 t9 H1 locs ht9 hvm9 hw9 hB9 hz9 hk9 hS => ?_)
  obtain ⟨μ1, r2⟩ := u9
  obtain ⟨hP, -⟩ := hB9
  rw [ht9] at hP
  generalize H1 = H at hP hS ⊢
  obtain ⟨e9, hw9⟩ := hw9
  have e9 : r9 = iZ r2 := e9
  subst e9
  simp only at hP hw9
  have hμ1 := hw9; clear hw9
  rw [hμ1.1] at hP; have hμ1 := hμ1.2
  have h1 := hμ1
  refine fz_if_eq (tgt := 10) (by constructor <;> (first | ((try clear h1); (try clear hμ1); (try clear hz9); (try clear c9); (try clear h9); (try clear eq1); (try clear d1); (try clear c2); (try clear c1); (try clear c4); (try clear c3); (try clear o39); (try clear n4); (try clear n3); (try clear n2); (try clear n1); (try clear o4); (try clear o3); (try clear o2); (try clear o1); (try clear hO9); (try clear hsz); (try clear s₁); (try clear hcan); (try clear hcol); (try clear hq); omega) | omega)) hx hb dX10_waysFrom_5 (by decide) (fun c5_ => ?_) (fun c5_ => ?_)
  · have hlf : ¬ nod μ q.toNat < 3 := fun h => by rw [if_pos h] at h1; (first | ((try clear h); (try clear hlf); (try clear hμ1); (try clear hz9); (try clear c9); (try clear h9); (try clear eq1); (try clear d1); (try clear c2); (try clear c1); (try clear c4); (try clear c3); (try clear o39); (try clear n4); (try clear n3); (try clear n2); (try clear n1); (try clear o4); (try clear o3); (try clear o2); (try clear o1); (try clear hO9); (try clear hsz); (try clear s₁); (try clear hcan); (try clear hcol); (try clear hq); omega) | omega)
    obtain ⟨m1, m2⟩ := h9 (by (first | ((try clear m2); (try clear m1); (try clear c5_); (try clear h1); (try clear hμ1); (try clear μ1); (try clear hz9); (try clear h9); (try clear eq1); (try clear d1); (try clear c2); (try clear c1); (try clear c4); (try clear c3); (try clear o39); (try clear n4); (try clear n3); (try clear n2); (try clear n1); (try clear o4); (try clear o3); (try clear o2); (try clear o1); (try clear hO9); (try clear hsz); (try clear s₁); (try clear hcan); (try clear hcol); (try clear hq); omega) | omega))
    have d2 := hcan (μ 4413 q.toNat + 1).toNat (by (first | ((try clear d2); (try clear hlf); (try clear c5_); (try clear h1); (try clear hμ1); (try clear μ1); (try clear hz9); (try clear c9); (try clear h9); (try clear eq1); (try clear d1); (try clear c2); (try clear c1); (try clear c4); (try clear c3); (try clear o39); (try clear n4); (try clear n3); (try clear n2); (try clear n1); (try clear o4); (try clear o3); (try clear o2); (try clear o1); (try clear hO9); (try clear hsz); (try clear s₁); (try clear hcan); (try clear hcol); (try clear hq); omega) | omega))
    refine lv_aload_n hx hb dX10_waysFrom_10 rfl (lv_at hl 0 rfl) ?_
    refine fz_get (D := (dC, dI)) (ci := 10) (v := .ref (h0 + 4414)) (C := RX10) (T := TX10) (N := 53) hx hb hts inG10 hown hK hP (k := 0) (by decide) (F := mF h0) mE_obj rfl 42 (by decide) (hts _ k1208) (fun _ h9 => h9) rfl dX10_waysFrom_11 ?_
    refine lv_iload_n hx hb dX10_waysFrom_14 rfl (lv_at hl 1 rfl) ?_
    refine fz_zld (k := 4414) (n := 1900) hx hb hK hP 1 (by decide) mE_isEnd rfl ⟨by (first | ((try clear d2); (try clear m2); (try clear m1); (try clear hlf); (try clear c5_); (try clear h1); (try clear hμ1); (try clear μ1); (try clear hz9); (try clear c9); (try clear h9); (try clear eq1); (try clear d1); (try clear c2); (try clear c1); (try clear c4); (try clear c3); (try clear o39); (try clear n4); (try clear n3); (try clear n2); (try clear n1); (try clear o4); (try clear o3); (try clear o2); (try clear o1); (try clear hO9); (try clear hsz); (try clear s₁); (try clear hcan); (try clear hcol); omega) | omega), by (first | ((try clear d2); (try clear m2); (try clear m1); (try clear hlf); (try clear c5_); (try clear h1); (try clear hμ1); (try clear μ1); (try clear hz9); (try clear c9); (try clear h9); (try clear eq1); (try clear d1); (try clear c2); (try clear c1); (try clear c4); (try clear c3); (try clear o39); (try clear n4); (try clear n3); (try clear n2); (try clear n1); (try clear o4); (try clear o3); (try clear hO9); (try clear hsz); (try clear s₁); (try clear hcan); (try clear hcol); omega) | omega)⟩ (by decide) dX10_waysFrom_15 ?_
    refine fz_if_ne (tgt := 69) (by constructor <;> (first | ((try clear d2); (try clear m2); (try clear m1); (try clear c5_); (try clear h1); (try clear hμ1); (try clear μ1); (try clear hz9); (try clear eq1); (try clear d1); (try clear c2); (try clear c1); (try clear c4); (try clear c3); (try clear o4); (try clear o3); (try clear o2); (try clear o1); (try clear hO9); (try clear hsz); (try clear s₁); (try clear hcan); (try clear hcol); omega) | omega)) hx hb dX10_waysFrom_16 (by decide) (fun c16_ => ?_) (fun c16_ => ?_)
    · refine lv_aload_n hx hb dX10_waysFrom_69 rfl (lv_at hl 0 rfl) ?_
      refine lv_iload_n hx hb dX10_waysFrom_70 rfl (lv_at hl 1 rfl) ?_
      refine va_calli (va_runV (As := [.int (iZ (q))]) (rest := []) ⟨hx, hb, hml, hown, hts⟩ (m_isOption l dC dI cI cZ cII cIII h0 H.size μ (q) (by first | assumption | omega | exact ⟨by omega, by omega⟩) (by first | assumption | omega | exact ⟨by omega, by omega⟩)) (cwV 1 hts (gV_G k1524 k1526 ks_yX10_isOption k13 k1527) rfl rfl rfl (by decide +kernel) ⟨Nat.le_of_ble_eq_true rfl, Nat.le_of_ble_eq_true rfl⟩) ⟨fun a U g mk q => by obtain ⟨q0, q1, qP, qK⟩ := q; exact ⟨q0, q1, qP, va_K.moved (u := U) (U := U.calling g mk a) (Vm.Alike.refl U.vm) qK⟩, va_recv hK hP (ci := 10) (q0 := 0) rfl ((fw_get (by decide)).trans (by rw [mE_obj]; rfl)), fun U hU hW => ⟨rfl, by rw [hU], by rw [hU]; exact hP, va_K.moved hW.alike hK⟩⟩ rfl rfl hl.1 rfl (lv_room (Nat.le_of_ble_eq_true rfl)) dX10_waysFrom_71 ⟨Nat.le_of_ble_eq_true rfl, Nat.le_of_ble_eq_true rfl⟩) hS (fun q _ h => fA_le hS.1 q h) (fA_le hS.1) (fun r9 u9 t9 H1 locs ht9 hvm9 hw9 hB9 hz9 hk9 hS => ?_)
      obtain ⟨μ3, r4⟩ := u9
      obtain ⟨hP, -⟩ := hB9
      rw [ht9] at hP
      generalize H1 = H at hP hS ⊢
      obtain ⟨e9, hw9⟩ := hw9
      have e9 : r9 = iZ r4 := e9
      subst e9
      simp only at hP hw9
      have hμ3 := hw9; clear hw9
      rw [hμ3.1] at hP; have hμ3 := hμ3.2
      have h2 := hμ3
      refine fz_if_eq (tgt := 90) (by constructor <;> (first | ((try clear h2); (try clear hμ3); (try clear hz9); (try clear c16_); (try clear d2); (try clear m2); (try clear m1); (try clear hlf); (try clear c5_); (try clear h1); (try clear hμ1); (try clear μ1); (try clear c9); (try clear h9); (try clear eq1); (try clear d1); (try clear c2); (try clear c1); (try clear c4); (try clear c3); (try clear o39); (try clear n4); (try clear n3); (try clear n2); (try clear n1); (try clear o4); (try clear o3); (try clear o2); (try clear o1); (try clear hO9); (try clear hsz); (try clear s₁); (try clear hcan); (try clear hcol); (try clear hq); omega) | omega)) hx hb dX10_waysFrom_74 (by decide) (fun c74_ => ?_) (fun c74_ => ?_)
      · have hop : ¬ nod μ q.toNat = 3 := if_not h2 (by (first | ((try clear hop); (try clear h2); (try clear hμ3); (try clear r4); (try clear μ3); (try clear hz9); (try clear c16_); (try clear d2); (try clear m2); (try clear m1); (try clear hlf); (try clear c5_); (try clear h1); (try clear hμ1); (try clear r2); (try clear μ1); (try clear c9); (try clear h9); (try clear eq1); (try clear d1); (try clear c2); (try clear c1); (try clear c4); (try clear c3); (try clear o39); (try clear n4); (try clear n3); (try clear n2); (try clear n1); (try clear o4); (try clear o3); (try clear o2); (try clear o1); (try clear hO9); (try clear hsz); (try clear s₁); (try clear hcan); (try clear hcol); (try clear hq); omega) | omega))
        refine lv_aload_n hx hb dX10_waysFrom_90 rfl (lv_at hl 0 rfl) ?_
        refine fz_get (D := (dC, dI)) (ci := 10) (v := .ref (h0 + 4415)) (C := RX10) (T := TX10) (N := 53) hx hb hts inG10 hown hK hP (k := 0) (by decide) (F := mF h0) mE_obj rfl 43 (by decide) (hts _ k1209) (fun _ h9 => h9) rfl dX10_waysFrom_91 ?_
        refine lv_aload_n hx hb dX10_waysFrom_94 rfl (lv_at hl 0 rfl) ?_
        refine fz_get (D := (dC, dI)) (ci := 10) (v := .ref (h0 + 4413)) (C := RX10) (T := TX10) (N := 53) hx hb hts inG10 hown hK hP (k := 0) (by decide) (F := mF h0) mE_obj rfl 41 (by decide) (hts _ k1207) (fun _ h9 => h9) rfl dX10_waysFrom_95 ?_
        refine lv_iload_n hx hb dX10_waysFrom_98 rfl (lv_at hl 1 rfl) ?_
        refine fz_ld (k := 4413) (n := 1900) hx hb hK hP 0 (by decide) mE_other rfl ⟨by (first | ((try clear hop); (try clear c74_); (try clear h2); (try clear hμ3); (try clear μ3); (try clear hz9); (try clear c16_); (try clear d2); (try clear m2); (try clear m1); (try clear hlf); (try clear c5_); (try clear h1); (try clear hμ1); (try clear μ1); (try clear c9); (try clear h9); (try clear eq1); (try clear d1); (try clear c2); (try clear c1); (try clear c4); (try clear c3); (try clear o39); (try clear n4); (try clear n3); (try clear n2); (try clear n1); (try clear o4); (try clear o3); (try clear o2); (try clear o1); (try clear hO9); (try clear hsz); (try clear s₁); (try clear hcan); (try clear hcol); omega) | omega), by (first | ((try clear hop); (try clear c74_); (try clear h2); (try clear hμ3); (try clear μ3); (try clear hz9); (try clear c16_); (try clear d2); (try clear m2); (try clear m1); (try clear hlf); (try clear c5_); (try clear h1); (try clear hμ1); (try clear μ1); (try clear c9); (try clear h9); (try clear eq1); (try clear d1); (try clear c2); (try clear c1); (try clear c4); (try clear c3); (try clear o39); (try clear n4); (try clear n3); (try clear n2); (try clear n1); (try clear o4); (try clear o3); (try clear hO9); (try clear hsz); (try clear s₁); (try clear hcan); (try clear hcol); omega) | omega)⟩ (by decide) dX10_waysFrom_99 ?_
        refine lv_iconst (v := iZ 1) hx hb dX10_waysFrom_100 rfl ?_
        refine lv_iadd hx hb dX10_waysFrom_101 ?_
        refine lv_topi (fun x9 ex9 => ?_)
        obtain rfl : x9 = iZ ((μ 4413 (q).toNat) + 1) := ex9.trans (iZ_add _ _)
        refine fz_ald (k := 4415) (n := 1900) (k2 := (4416 + ((μ 4413 (q).toNat) + 1).toNat)) hx hb hK hP 2 rfl (by decide) mE_can rfl ⟨by (first | ((try clear ex9); (try clear hop); (try clear c74_); (try clear h2); (try clear hμ3); (try clear μ3); (try clear hz9); (try clear c16_); (try clear d2); (try clear m2); (try clear hlf); (try clear c5_); (try clear h1); (try clear hμ1); (try clear μ1); (try clear c9); (try clear h9); (try clear eq1); (try clear d1); (try clear c2); (try clear c1); (try clear c4); (try clear c3); (try clear o39); (try clear n4); (try clear n3); (try clear n2); (try clear n1); (try clear o4); (try clear o3); (try clear o2); (try clear o1); (try clear hO9); (try clear hsz); (try clear s₁); (try clear hcan); (try clear hcol); (try clear hq); omega) | omega), by (first | ((try clear ex9); (try clear hop); (try clear c74_); (try clear h2); (try clear hμ3); (try clear μ3); (try clear hz9); (try clear c16_); (try clear d2); (try clear m1); (try clear hlf); (try clear c5_); (try clear h1); (try clear hμ1); (try clear μ1); (try clear c9); (try clear h9); (try clear eq1); (try clear d1); (try clear c2); (try clear c1); (try clear c4); (try clear c3); (try clear o39); (try clear n4); (try clear n3); (try clear n2); (try clear n1); (try clear o4); (try clear o3); (try clear hO9); (try clear hsz); (try clear s₁); (try clear hcan); (try clear hcol); omega) | omega)⟩ (by decide) (if_pos (by (first | ((try clear ex9); (try clear hop); (try clear c74_); (try clear h2); (try clear hμ3); (try clear μ3); (try clear hz9); (try clear c16_); (try clear d2); (try clear hlf); (try clear c5_); (try clear h1); (try clear hμ1); (try clear μ1); (try clear c9); (try clear h9); (try clear eq1); (try clear d1); (try clear c2); (try clear c1); (try clear c4); (try clear c3); (try clear o39); (try clear n4); (try clear n3); (try clear n2); (try clear n1); (try clear o4); (try clear o3); (try clear hO9); (try clear hsz); (try clear s₁); (try clear hcan); (try clear hcol); omega) | omega))) dX10_waysFrom_102 ?_
        refine lv_iload_n hx hb dX10_waysFrom_103 rfl (lv_at hl 2 rfl) ?_
        refine fz_ld (k := (4416 + ((μ 4413 (q).toNat) + 1).toNat)) (n := 62) hx hb hK hP 0 (by (first | ((try clear ex9); (try clear hop); (try clear c74_); (try clear h2); (try clear hμ3); (try clear μ3); (try clear hz9); (try clear c16_); (try clear d2); (try clear hlf); (try clear c5_); (try clear h1); (try clear hμ1); (try clear μ1); (try clear c9); (try clear h9); (try clear eq1); (try clear d1); (try clear c2); (try clear c1); (try clear c4); (try clear c3); (try clear o39); (try clear n4); (try clear n3); (try clear n2); (try clear n1); (try clear o4); (try clear o3); (try clear hO9); (try clear hsz); (try clear s₁); (try clear hcan); (try clear hcol); omega) | omega)) (mE_canR (by (first | ((try clear ex9); (try clear hop); (try clear c74_); (try clear h2); (try clear hμ3); (try clear μ3); (try clear hz9); (try clear c16_); (try clear d2); (try clear hlf); (try clear c5_); (try clear h1); (try clear hμ1); (try clear μ1); (try clear c9); (try clear h9); (try clear eq1); (try clear d1); (try clear c2); (try clear c1); (try clear c4); (try clear c3); (try clear o39); (try clear n4); (try clear n3); (try clear n2); (try clear n1); (try clear o4); (try clear o3); (try clear hO9); (try clear hsz); (try clear s₁); (try clear hcan); (try clear hcol); omega) | omega))) rfl ⟨by (first | ((try clear ex9); (try clear hop); (try clear c74_); (try clear h2); (try clear hμ3); (try clear μ3); (try clear hz9); (try clear c16_); (try clear d2); (try clear m2); (try clear m1); (try clear hlf); (try clear c5_); (try clear h1); (try clear hμ1); (try clear μ1); (try clear c9); (try clear h9); (try clear eq1); (try clear d1); (try clear c2); (try clear c1); (try clear c4); (try clear c3); (try clear o39); (try clear n4); (try clear n3); (try clear n2); (try clear n1); (try clear o4); (try clear o3); (try clear o2); (try clear o1); (try clear hO9); (try clear hsz); (try clear s₁); (try clear hcan); (try clear hq); omega) | omega), by (first | ((try clear ex9); (try clear hop); (try clear c74_); (try clear h2); (try clear hμ3); (try clear μ3); (try clear hz9); (try clear c16_); (try clear d2); (try clear m2); (try clear m1); (try clear hlf); (try clear c5_); (try clear h1); (try clear hμ1); (try clear μ1); (try clear c9); (try clear h9); (try clear eq1); (try clear d1); (try clear c2); (try clear c1); (try clear c4); (try clear c3); (try clear o39); (try clear n4); (try clear n3); (try clear n2); (try clear n1); (try clear o4); (try clear o3); (try clear o2); (try clear o1); (try clear hO9); (try clear hsz); (try clear s₁); (try clear hcan); (try clear hq); omega) | omega)⟩ (by decide) dX10_waysFrom_104 ?_
        refine lv_aload_n hx hb dX10_waysFrom_105 rfl (lv_at hl 0 rfl) ?_
        refine fz_get (D := (dC, dI)) (ci := 10) (v := .ref (h0 + 4415)) (C := RX10) (T := TX10) (N := 53) hx hb hts inG10 hown hK hP (k := 0) (by decide) (F := mF h0) mE_obj rfl 43 (by decide) (hts _ k1209) (fun _ h9 => h9) rfl dX10_waysFrom_106 ?_
        refine lv_iload_n hx hb dX10_waysFrom_109 rfl (lv_at hl 1 rfl) ?_
        refine lv_iconst (v := iZ 1) hx hb dX10_waysFrom_110 rfl ?_
        refine lv_iadd hx hb dX10_waysFrom_111 ?_
        refine lv_topi (fun x9 ex9 => ?_)
        obtain rfl : x9 = iZ (q + 1) := ex9.trans (iZ_add _ _)
        refine fz_ald (k := 4415) (n := 1900) (k2 := (4416 + (q + 1).toNat)) hx hb hK hP 2 rfl (by decide) mE_can rfl ⟨by (first | ((try clear ex9); (try clear hop); (try clear c74_); (try clear h2); (try clear hμ3); (try clear μ3); (try clear hz9); (try clear c16_); (try clear d2); (try clear m2); (try clear m1); (try clear hlf); (try clear c5_); (try clear h1); (try clear hμ1); (try clear μ1); (try clear c9); (try clear h9); (try clear eq1); (try clear d1); (try clear c2); (try clear c1); (try clear c4); (try clear c3); (try clear o39); (try clear n4); (try clear n3); (try clear n2); (try clear n1); (try clear o4); (try clear o3); (try clear o2); (try clear o1); (try clear hO9); (try clear hsz); (try clear s₁); (try clear hcan); (try clear hcol); omega) | omega), by (first | ((try clear ex9); (try clear hop); (try clear c74_); (try clear h2); (try clear hμ3); (try clear μ3); (try clear hz9); (try clear c16_); (try clear d2); (try clear m2); (try clear m1); (try clear hlf); (try clear c5_); (try clear h1); (try clear hμ1); (try clear μ1); (try clear c9); (try clear h9); (try clear eq1); (try clear d1); (try clear c2); (try clear c1); (try clear c4); (try clear c3); (try clear o39); (try clear n4); (try clear n3); (try clear n2); (try clear n1); (try clear o4); (try clear o3); (try clear hO9); (try clear hsz); (try clear s₁); (try clear hcan); (try clear hcol); omega) | omega)⟩ (by decide) (if_pos (by (first | ((try clear ex9); (try clear c74_); (try clear h2); (try clear hμ3); (try clear μ3); (try clear hz9); (try clear d2); (try clear m2); (try clear m1); (try clear c5_); (try clear h1); (try clear hμ1); (try clear μ1); (try clear d1); (try clear c2); (try clear c1); (try clear c4); (try clear c3); (try clear o39); (try clear n4); (try clear n3); (try clear n2); (try clear n1); (try clear o4); (try clear o3); (try clear hO9); (try clear hsz); (try clear s₁); (try clear hcan); (try clear hcol); omega) | omega))) dX10_waysFrom_112 ?_
        refine lv_iload_n hx hb dX10_waysFrom_113 rfl (lv_at hl 2 rfl) ?_
        refine fz_ld (k := (4416 + (q + 1).toNat)) (n := 62) hx hb hK hP 0 (by (first | ((try clear ex9); (try clear c74_); (try clear h2); (try clear hμ3); (try clear μ3); (try clear hz9); (try clear d2); (try clear m2); (try clear m1); (try clear c5_); (try clear h1); (try clear hμ1); (try clear μ1); (try clear d1); (try clear c2); (try clear c1); (try clear c4); (try clear c3); (try clear o39); (try clear n4); (try clear n3); (try clear n2); (try clear n1); (try clear o4); (try clear o3); (try clear hO9); (try clear hsz); (try clear s₁); (try clear hcan); (try clear hcol); omega) | omega)) (mE_canR (by (first | ((try clear ex9); (try clear c74_); (try clear h2); (try clear hμ3); (try clear μ3); (try clear hz9); (try clear d2); (try clear m2); (try clear m1); (try clear c5_); (try clear h1); (try clear hμ1); (try clear μ1); (try clear d1); (try clear c2); (try clear c1); (try clear c4); (try clear c3); (try clear o39); (try clear n4); (try clear n3); (try clear n2); (try clear n1); (try clear o4); (try clear o3); (try clear hO9); (try clear hsz); (try clear s₁); (try clear hcan); (try clear hcol); omega) | omega))) rfl ⟨by (first | ((try clear ex9); (try clear hop); (try clear c74_); (try clear h2); (try clear hμ3); (try clear μ3); (try clear hz9); (try clear c16_); (try clear d2); (try clear m2); (try clear m1); (try clear hlf); (try clear c5_); (try clear h1); (try clear hμ1); (try clear μ1); (try clear c9); (try clear h9); (try clear eq1); (try clear d1); (try clear c2); (try clear c1); (try clear c4); (try clear c3); (try clear o39); (try clear n4); (try clear n3); (try clear n2); (try clear n1); (try clear o4); (try clear o3); (try clear o2); (try clear o1); (try clear hO9); (try clear hsz); (try clear s₁); (try clear hcan); (try clear hq); omega) | omega), by (first | ((try clear ex9); (try clear hop); (try clear c74_); (try clear h2); (try clear hμ3); (try clear μ3); (try clear hz9); (try clear c16_); (try clear d2); (try clear m2); (try clear m1); (try clear hlf); (try clear c5_); (try clear h1); (try clear hμ1); (try clear μ1); (try clear c9); (try clear h9); (try clear eq1); (try clear d1); (try clear c2); (try clear c1); (try clear c4); (try clear c3); (try clear o39); (try clear n4); (try clear n3); (try clear n2); (try clear n1); (try clear o4); (try clear o3); (try clear o2); (try clear o1); (try clear hO9); (try clear hsz); (try clear s₁); (try clear hcan); (try clear hq); omega) | omega)⟩ (by decide) dX10_waysFrom_114 ?_
        rw [show μ (4416 + (q + 1).toNat) (col).toNat = μ (4416 + (q.toNat + 1)) col.toNat from (by rw [eq1])]
        refine va_calli (va_runS (As := [.int (iZ (μ (4416 + ((μ 4413 (q).toNat) + 1).toNat) (col).toNat)), .int (iZ (μ (4416 + (q.toNat + 1)) col.toNat))]) (rest := []) ⟨hx, hb, hml, hown, hts⟩ (m_sum l dC dI cI cZ cII cIII h0 H.size μ (μ (4416 + ((μ 4413 (q).toNat) + 1).toNat) (col).toNat) (μ (4416 + (q.toNat + 1)) col.toNat) (by (first | ((try clear ex9); (try clear hop); (try clear c74_); (try clear h2); (try clear hμ3); (try clear r4); (try clear μ3); (try clear hz9); (try clear c16_); (try clear m2); (try clear m1); (try clear hlf); (try clear c5_); (try clear h1); (try clear hμ1); (try clear r2); (try clear μ1); (try clear c9); (try clear h9); (try clear eq1); (try clear d1); (try clear c2); (try clear c1); (try clear c4); (try clear c3); (try clear o39); (try clear n4); (try clear n3); (try clear n2); (try clear n1); (try clear o4); (try clear o3); (try clear o2); (try clear o1); (try clear hO9); (try clear hsz); (try clear s₁); (try clear hcan); (try clear hcol); (try clear hq); omega) | omega)) (by (first | ((try clear ex9); (try clear hop); (try clear c74_); (try clear h2); (try clear hμ3); (try clear r4); (try clear μ3); (try clear hz9); (try clear c16_); (try clear d2); (try clear m2); (try clear m1); (try clear hlf); (try clear c5_); (try clear h1); (try clear hμ1); (try clear r2); (try clear μ1); (try clear c9); (try clear h9); (try clear eq1); (try clear c2); (try clear c1); (try clear c4); (try clear c3); (try clear o39); (try clear n4); (try clear n3); (try clear n2); (try clear n1); (try clear o4); (try clear o3); (try clear o2); (try clear o1); (try clear hO9); (try clear hsz); (try clear s₁); (try clear hcan); (try clear hcol); (try clear hq); omega) | omega))) (cwS 2 hts (gS_G k1528 k1529 k13 k1530) rfl rfl rfl (by decide +kernel) ⟨Nat.le_of_ble_eq_true rfl, Nat.le_of_ble_eq_true rfl⟩) ⟨fun a U g mk q => by obtain ⟨q0, q1, qP, qK⟩ := q; exact ⟨q0, q1, qP, va_K.moved (u := U) (U := U.calling g mk a) (Vm.Alike.refl U.vm) qK⟩, fun U hU hW => ⟨rfl, by rw [hU], by rw [hU]; exact hP, va_K.moved hW.alike hK⟩⟩ rfl rfl hl.1 rfl (lv_room (Nat.le_of_ble_eq_true rfl)) dX10_waysFrom_115 ⟨Nat.le_of_ble_eq_true rfl, Nat.le_of_ble_eq_true rfl⟩) hS (fun q _ h => fA_le hS.1 q h) (fA_le hS.1) (fun r9 u9 t9 H1 locs ht9 hvm9 hw9 hB9 hz9 hk9 hS => ?_)
        obtain ⟨μ5, r6⟩ := u9
        obtain ⟨hP, -⟩ := hB9
        rw [ht9] at hP
        generalize H1 = H at hP hS ⊢
        obtain ⟨e9, hw9⟩ := hw9
        have e9 : r9 = iZ r6 := e9
        subst e9
        simp only at hP hw9
        have hμ5 := hw9; clear hw9
        rw [hμ5.1] at hP; have hμ5 := hμ5.2
        exact W.iret (v := iZ (r6)) hx hb hr (fun t9 ht9 hW9 => ⟨⟨iZ (r6), (μ, r6), rfl, ⟨rfl, (by
                        dsimp only
                        refine ⟨rfl, ?_⟩
                        unfold wF
                        first
                          | (rw [if_pos hlf])
                          | (rw [if_neg hlf, if_pos (by omega), if_pos hop]; exact hμ5)
                          | (rw [if_neg hlf, if_pos (by omega), if_neg hop])
                          | (rw [if_neg hlf, if_neg (by omega), if_pos hop])
                          | (rw [if_neg hlf, if_neg (by (first | ((try clear if_neg); (try clear hlf); (try clear hμ5); (try clear r6); (try clear μ5); (try clear hz9); (try clear ex9); (try clear hop); (try clear c74_); (try clear h2); (try clear hμ3); (try clear r4); (try clear μ3); (try clear d2); (try clear m2); (try clear m1); (try clear c5_); (try clear h1); (try clear hμ1); (try clear r2); (try clear μ1); (try clear c9); (try clear h9); (try clear eq1); (try clear d1); (try clear c2); (try clear c1); (try clear c4); (try clear c3); (try clear o39); (try clear n4); (try clear n3); (try clear n2); (try clear n1); (try clear o4); (try clear o3); (try clear o2); (try clear o1); (try clear hO9); (try clear hsz); (try clear s₁); (try clear hcan); (try clear hcol); (try clear hq); omega) | omega)), if_neg hop]; exact hμ5))⟩, by rw [ht9]; exact hP, va_K.moved hW9.alike hK⟩, hS.F ht9⟩) hS.2.2 dX10_waysFrom_118
      · have hop : nod μ q.toNat = 3 := if_get h2 (by (first | ((try clear hop); (try clear h2); (try clear hμ3); (try clear r4); (try clear μ3); (try clear hz9); (try clear c16_); (try clear d2); (try clear m2); (try clear m1); (try clear hlf); (try clear c5_); (try clear h1); (try clear hμ1); (try clear r2); (try clear μ1); (try clear c9); (try clear h9); (try clear eq1); (try clear d1); (try clear c2); (try clear c1); (try clear c4); (try clear c3); (try clear o39); (try clear n4); (try clear n3); (try clear n2); (try clear n1); (try clear o4); (try clear o3); (try clear o2); (try clear o1); (try clear hO9); (try clear hsz); (try clear s₁); (try clear hcan); (try clear hcol); (try clear hq); omega) | omega))
        refine lv_aload_n hx hb dX10_waysFrom_77 rfl (lv_at hl 0 rfl) ?_
        refine fz_get (D := (dC, dI)) (ci := 10) (v := .ref (h0 + 4415)) (C := RX10) (T := TX10) (N := 53) hx hb hts inG10 hown hK hP (k := 0) (by decide) (F := mF h0) mE_obj rfl 43 (by decide) (hts _ k1209) (fun _ h9 => h9) rfl dX10_waysFrom_78 ?_
        refine lv_iload_n hx hb dX10_waysFrom_81 rfl (lv_at hl 1 rfl) ?_
        refine lv_iconst (v := iZ 1) hx hb dX10_waysFrom_82 rfl ?_
        refine lv_iadd hx hb dX10_waysFrom_83 ?_
        refine lv_topi (fun x9 ex9 => ?_)
        obtain rfl : x9 = iZ (q + 1) := ex9.trans (iZ_add _ _)
        refine fz_ald (k := 4415) (n := 1900) (k2 := (4416 + (q + 1).toNat)) hx hb hK hP 2 rfl (by decide) mE_can rfl ⟨by (first | ((try clear ex9); (try clear hop); (try clear c74_); (try clear h2); (try clear hμ3); (try clear μ3); (try clear hz9); (try clear c16_); (try clear d2); (try clear m2); (try clear m1); (try clear hlf); (try clear c5_); (try clear h1); (try clear hμ1); (try clear μ1); (try clear c9); (try clear h9); (try clear eq1); (try clear d1); (try clear c2); (try clear c1); (try clear c4); (try clear c3); (try clear o39); (try clear n4); (try clear n3); (try clear n2); (try clear n1); (try clear o4); (try clear o3); (try clear o2); (try clear o1); (try clear hO9); (try clear hsz); (try clear s₁); (try clear hcan); (try clear hcol); omega) | omega), by (first | ((try clear ex9); (try clear hop); (try clear c74_); (try clear h2); (try clear hμ3); (try clear μ3); (try clear hz9); (try clear c16_); (try clear d2); (try clear m2); (try clear m1); (try clear hlf); (try clear c5_); (try clear h1); (try clear hμ1); (try clear μ1); (try clear c9); (try clear h9); (try clear eq1); (try clear d1); (try clear c2); (try clear c1); (try clear c4); (try clear c3); (try clear o39); (try clear n4); (try clear n3); (try clear n2); (try clear n1); (try clear o4); (try clear o3); (try clear hO9); (try clear hsz); (try clear s₁); (try clear hcan); (try clear hcol); omega) | omega)⟩ (by decide) (if_pos (by (first | ((try clear ex9); (try clear h2); (try clear hμ3); (try clear hz9); (try clear d2); (try clear m2); (try clear m1); (try clear hlf); (try clear c5_); (try clear h1); (try clear hμ1); (try clear μ1); (try clear c9); (try clear d1); (try clear c2); (try clear c1); (try clear c4); (try clear c3); (try clear o39); (try clear n4); (try clear n3); (try clear n2); (try clear n1); (try clear o4); (try clear o3); (try clear hO9); (try clear hsz); (try clear s₁); (try clear hcan); (try clear hcol); omega) | omega))) dX10_waysFrom_84 ?_
        refine lv_iload_n hx hb dX10_waysFrom_85 rfl (lv_at hl 2 rfl) ?_
        refine fz_ld (k := (4416 + (q + 1).toNat)) (n := 62) hx hb hK hP 0 (by (first | ((try clear ex9); (try clear h2); (try clear hμ3); (try clear hz9); (try clear d2); (try clear m2); (try clear m1); (try clear hlf); (try clear c5_); (try clear h1); (try clear hμ1); (try clear μ1); (try clear c9); (try clear d1); (try clear c2); (try clear c1); (try clear c4); (try clear c3); (try clear o39); (try clear n4); (try clear n3); (try clear n2); (try clear n1); (try clear o4); (try clear o3); (try clear hO9); (try clear hsz); (try clear s₁); (try clear hcan); (try clear hcol); omega) | omega)) (mE_canR (by (first | ((try clear ex9); (try clear h2); (try clear hμ3); (try clear hz9); (try clear d2); (try clear m2); (try clear m1); (try clear hlf); (try clear c5_); (try clear h1); (try clear hμ1); (try clear μ1); (try clear c9); (try clear d1); (try clear c2); (try clear c1); (try clear c4); (try clear c3); (try clear o39); (try clear n4); (try clear n3); (try clear n2); (try clear n1); (try clear o4); (try clear o3); (try clear hO9); (try clear hsz); (try clear s₁); (try clear hcan); (try clear hcol); omega) | omega))) rfl ⟨by (first | ((try clear ex9); (try clear hop); (try clear c74_); (try clear h2); (try clear hμ3); (try clear μ3); (try clear hz9); (try clear c16_); (try clear d2); (try clear m2); (try clear m1); (try clear hlf); (try clear c5_); (try clear h1); (try clear hμ1); (try clear μ1); (try clear c9); (try clear h9); (try clear eq1); (try clear d1); (try clear c2); (try clear c1); (try clear c4); (try clear c3); (try clear o39); (try clear n4); (try clear n3); (try clear n2); (try clear n1); (try clear o4); (try clear o3); (try clear o2); (try clear o1); (try clear hO9); (try clear hsz); (try clear s₁); (try clear hcan); (try clear hq); omega) | omega), by (first | ((try clear ex9); (try clear hop); (try clear c74_); (try clear h2); (try clear hμ3); (try clear μ3); (try clear hz9); (try clear c16_); (try clear d2); (try clear m2); (try clear m1); (try clear hlf); (try clear c5_); (try clear h1); (try clear hμ1); (try clear μ1); (try clear c9); (try clear h9); (try clear eq1); (try clear d1); (try clear c2); (try clear c1); (try clear c4); (try clear c3); (try clear o39); (try clear n4); (try clear n3); (try clear n2); (try clear n1); (try clear o4); (try clear o3); (try clear o2); (try clear o1); (try clear hO9); (try clear hsz); (try clear s₁); (try clear hcan); (try clear hq); omega) | omega)⟩ (by decide) dX10_waysFrom_86 ?_
        rw [show μ (4416 + (q + 1).toNat) (col).toNat = μ (4416 + (q.toNat + 1)) col.toNat from (by rw [eq1])]
        refine lv_goto (tgt := 118) hx hb dX10_waysFrom_87 (by decide) ?_
        exact W.iret (v := iZ (μ (4416 + (q.toNat + 1)) col.toNat)) hx hb hr (fun t9 ht9 hW9 => ⟨⟨iZ (μ (4416 + (q.toNat + 1)) col.toNat), (μ, μ (4416 + (q.toNat + 1)) col.toNat), rfl, ⟨rfl, (by
                        dsimp only
                        refine ⟨rfl, ?_⟩
                        unfold wF
                        first
                          | (rw [if_pos hlf])
                          | (rw [if_neg hlf, if_pos (by omega), if_pos hop]; exact hμ3)
                          | (rw [if_neg hlf, if_pos (by omega), if_neg hop])
                          | (rw [if_neg hlf, if_neg (by (first | ((try clear if_neg); (try clear hlf); (try clear ex9); (try clear hop); (try clear c74_); (try clear h2); (try clear hμ3); (try clear r4); (try clear μ3); (try clear hz9); (try clear d2); (try clear m2); (try clear m1); (try clear c5_); (try clear h1); (try clear hμ1); (try clear r2); (try clear μ1); (try clear c9); (try clear h9); (try clear eq1); (try clear d1); (try clear c2); (try clear c1); (try clear c4); (try clear c3); (try clear o39); (try clear n4); (try clear n3); (try clear n2); (try clear n1); (try clear o4); (try clear o3); (try clear o2); (try clear o1); (try clear hO9); (try clear hsz); (try clear s₁); (try clear hcan); (try clear hcol); (try clear hq); omega) | omega)), if_pos hop])
                          | (rw [if_neg hlf, if_neg (by omega), if_neg hop]; exact hμ3))⟩, by rw [ht9]; exact hP, va_K.moved hW9.alike hK⟩, hS.F ht9⟩) hS.2.2 dX10_waysFrom_118
    · refine lv_aload_n hx hb dX10_waysFrom_19 rfl (lv_at hl 0 rfl) ?_
      refine lv_iload_n hx hb dX10_waysFrom_20 rfl (lv_at hl 1 rfl) ?_
      refine va_calli (va_runV (As := [.int (iZ (q))]) (rest := []) ⟨hx, hb, hml, hown, hts⟩ (m_isOption l dC dI cI cZ cII cIII h0 H.size μ (q) (by first | assumption | omega | exact ⟨by omega, by omega⟩) (by first | assumption | omega | exact ⟨by omega, by omega⟩)) (cwV 1 hts (gV_G k1524 k1526 ks_yX10_isOption k13 k1527) rfl rfl rfl (by decide +kernel) ⟨Nat.le_of_ble_eq_true rfl, Nat.le_of_ble_eq_true rfl⟩) ⟨fun a U g mk q => by obtain ⟨q0, q1, qP, qK⟩ := q; exact ⟨q0, q1, qP, va_K.moved (u := U) (U := U.calling g mk a) (Vm.Alike.refl U.vm) qK⟩, va_recv hK hP (ci := 10) (q0 := 0) rfl ((fw_get (by decide)).trans (by rw [mE_obj]; rfl)), fun U hU hW => ⟨rfl, by rw [hU], by rw [hU]; exact hP, va_K.moved hW.alike hK⟩⟩ rfl rfl hl.1 rfl (lv_room (Nat.le_of_ble_eq_true rfl)) dX10_waysFrom_21 ⟨Nat.le_of_ble_eq_true rfl, Nat.le_of_ble_eq_true rfl⟩) hS (fun q _ h => fA_le hS.1 q h) (fA_le hS.1) (fun r9 u9 t9 H1 locs ht9 hvm9 hw9 hB9 hz9 hk9 hS => ?_)
      obtain ⟨μ7, r8⟩ := u9
      obtain ⟨hP, -⟩ := hB9
      rw [ht9] at hP
      generalize H1 = H at hP hS ⊢
      obtain ⟨e9, hw9⟩ := hw9
      have e9 : r9 = iZ r8 := e9
      subst e9
      simp only at hP hw9
      have hμ7 := hw9; clear hw9
      rw [hμ7.1] at hP; have hμ7 := hμ7.2
      have h2 := hμ7
      refine fz_if_eq (tgt := 58) (by constructor <;> (first | ((try clear h2); (try clear hμ7); (try clear hz9); (try clear c16_); (try clear d2); (try clear m2); (try clear m1); (try clear hlf); (try clear c5_); (try clear h1); (try clear hμ1); (try clear μ1); (try clear c9); (try clear h9); (try clear eq1); (try clear d1); (try clear c2); (try clear c1); (try clear c4); (try clear c3); (try clear o39); (try clear n4); (try clear n3); (try clear n2); (try clear n1); (try clear o4); (try clear o3); (try clear o2); (try clear o1); (try clear hO9); (try clear hsz); (try clear s₁); (try clear hcan); (try clear hcol); (try clear hq); omega) | omega)) hx hb dX10_waysFrom_24 (by decide) (fun c24_ => ?_) (fun c24_ => ?_)
      · have hop : ¬ nod μ q.toNat = 3 := if_not h2 (by (first | ((try clear hop); (try clear h2); (try clear hμ7); (try clear r8); (try clear μ7); (try clear hz9); (try clear c16_); (try clear d2); (try clear m2); (try clear m1); (try clear hlf); (try clear c5_); (try clear h1); (try clear hμ1); (try clear r2); (try clear μ1); (try clear c9); (try clear h9); (try clear eq1); (try clear d1); (try clear c2); (try clear c1); (try clear c4); (try clear c3); (try clear o39); (try clear n4); (try clear n3); (try clear n2); (try clear n1); (try clear o4); (try clear o3); (try clear o2); (try clear o1); (try clear hO9); (try clear hsz); (try clear s₁); (try clear hcan); (try clear hcol); (try clear hq); omega) | omega))
        refine lv_aload_n hx hb dX10_waysFrom_58 rfl (lv_at hl 0 rfl) ?_
        refine fz_get (D := (dC, dI)) (ci := 10) (v := .ref (h0 + 4415)) (C := RX10) (T := TX10) (N := 53) hx hb hts inG10 hown hK hP (k := 0) (by decide) (F := mF h0) mE_obj rfl 43 (by decide) (hts _ k1209) (fun _ h9 => h9) rfl dX10_waysFrom_59 ?_
        refine lv_iload_n hx hb dX10_waysFrom_62 rfl (lv_at hl 1 rfl) ?_
        refine lv_iconst (v := iZ 1) hx hb dX10_waysFrom_63 rfl ?_
        refine lv_iadd hx hb dX10_waysFrom_64 ?_
        refine lv_topi (fun x9 ex9 => ?_)
        obtain rfl : x9 = iZ (q + 1) := ex9.trans (iZ_add _ _)
        refine fz_ald (k := 4415) (n := 1900) (k2 := (4416 + (q + 1).toNat)) hx hb hK hP 2 rfl (by decide) mE_can rfl ⟨by (first | ((try clear ex9); (try clear hop); (try clear c24_); (try clear h2); (try clear hμ7); (try clear μ7); (try clear hz9); (try clear c16_); (try clear d2); (try clear m2); (try clear m1); (try clear hlf); (try clear c5_); (try clear h1); (try clear hμ1); (try clear μ1); (try clear c9); (try clear h9); (try clear eq1); (try clear d1); (try clear c2); (try clear c1); (try clear c4); (try clear c3); (try clear o39); (try clear n4); (try clear n3); (try clear n2); (try clear n1); (try clear o4); (try clear o3); (try clear o2); (try clear o1); (try clear hO9); (try clear hsz); (try clear s₁); (try clear hcan); (try clear hcol); omega) | omega), by (first | ((try clear ex9); (try clear hop); (try clear c24_); (try clear h2); (try clear hμ7); (try clear μ7); (try clear hz9); (try clear c16_); (try clear d2); (try clear m2); (try clear m1); (try clear hlf); (try clear c5_); (try clear h1); (try clear hμ1); (try clear μ1); (try clear c9); (try clear h9); (try clear eq1); (try clear d1); (try clear c2); (try clear c1); (try clear c4); (try clear c3); (try clear o39); (try clear n4); (try clear n3); (try clear n2); (try clear n1); (try clear o4); (try clear o3); (try clear hO9); (try clear hsz); (try clear s₁); (try clear hcan); (try clear hcol); omega) | omega)⟩ (by decide) (if_pos (by (first | ((try clear ex9); (try clear c24_); (try clear h2); (try clear hμ7); (try clear μ7); (try clear hz9); (try clear c16_); (try clear d2); (try clear m2); (try clear m1); (try clear c5_); (try clear h1); (try clear hμ1); (try clear μ1); (try clear d1); (try clear c2); (try clear c1); (try clear c4); (try clear c3); (try clear o39); (try clear n4); (try clear n3); (try clear n2); (try clear n1); (try clear o4); (try clear o3); (try clear hO9); (try clear hsz); (try clear s₁); (try clear hcan); (try clear hcol); omega) | omega))) dX10_waysFrom_65 ?_
        refine lv_iload_n hx hb dX10_waysFrom_66 rfl (lv_at hl 2 rfl) ?_
        refine fz_ld (k := (4416 + (q + 1).toNat)) (n := 62) hx hb hK hP 0 (by (first | ((try clear ex9); (try clear c24_); (try clear h2); (try clear hμ7); (try clear μ7); (try clear hz9); (try clear c16_); (try clear d2); (try clear m2); (try clear m1); (try clear c5_); (try clear h1); (try clear hμ1); (try clear μ1); (try clear d1); (try clear c2); (try clear c1); (try clear c4); (try clear c3); (try clear o39); (try clear n4); (try clear n3); (try clear n2); (try clear n1); (try clear o4); (try clear o3); (try clear hO9); (try clear hsz); (try clear s₁); (try clear hcan); (try clear hcol); omega) | omega)) (mE_canR (by (first | ((try clear ex9); (try clear c24_); (try clear h2); (try clear hμ7); (try clear μ7); (try clear hz9); (try clear c16_); (try clear d2); (try clear m2); (try clear m1); (try clear c5_); (try clear h1); (try clear hμ1); (try clear μ1); (try clear d1); (try clear c2); (try clear c1); (try clear c4); (try clear c3); (try clear o39); (try clear n4); (try clear n3); (try clear n2); (try clear n1); (try clear o4); (try clear o3); (try clear hO9); (try clear hsz); (try clear s₁); (try clear hcan); (try clear hcol); omega) | omega))) rfl ⟨by (first | ((try clear ex9); (try clear hop); (try clear c24_); (try clear h2); (try clear hμ7); (try clear μ7); (try clear hz9); (try clear c16_); (try clear d2); (try clear m2); (try clear m1); (try clear hlf); (try clear c5_); (try clear h1); (try clear hμ1); (try clear μ1); (try clear c9); (try clear h9); (try clear eq1); (try clear d1); (try clear c2); (try clear c1); (try clear c4); (try clear c3); (try clear o39); (try clear n4); (try clear n3); (try clear n2); (try clear n1); (try clear o4); (try clear o3); (try clear o2); (try clear o1); (try clear hO9); (try clear hsz); (try clear s₁); (try clear hcan); (try clear hq); omega) | omega), by (first | ((try clear ex9); (try clear hop); (try clear c24_); (try clear h2); (try clear hμ7); (try clear μ7); (try clear hz9); (try clear c16_); (try clear d2); (try clear m2); (try clear m1); (try clear hlf); (try clear c5_); (try clear h1); (try clear hμ1); (try clear μ1); (try clear c9); (try clear h9); (try clear eq1); (try clear d1); (try clear c2); (try clear c1); (try clear c4); (try clear c3); (try clear o39); (try clear n4); (try clear n3); (try clear n2); (try clear n1); (try clear o4); (try clear o3); (try clear o2); (try clear o1); (try clear hO9); (try clear hsz); (try clear s₁); (try clear hcan); (try clear hq); omega) | omega)⟩ (by decide) dX10_waysFrom_67 ?_
        rw [show μ (4416 + (q + 1).toNat) (col).toNat = μ (4416 + (q.toNat + 1)) col.toNat from (by rw [eq1])]
        exact W.iret (v := iZ (μ (4416 + (q.toNat + 1)) col.toNat)) hx hb hr (fun t9 ht9 hW9 => ⟨⟨iZ (μ (4416 + (q.toNat + 1)) col.toNat), (μ, μ (4416 + (q.toNat + 1)) col.toNat), rfl, ⟨rfl, (by
                        dsimp only
                        refine ⟨rfl, ?_⟩
                        unfold wF
                        first
                          | (rw [if_pos hlf])
                          | (rw [if_neg hlf, if_pos (by omega), if_pos hop]; exact hμ7)
                          | (rw [if_neg hlf, if_pos (by (first | ((try clear if_pos); (try clear hlf); (try clear if_neg); (try clear ex9); (try clear hop); (try clear c24_); (try clear h2); (try clear hμ7); (try clear r8); (try clear μ7); (try clear hz9); (try clear d2); (try clear m2); (try clear m1); (try clear c5_); (try clear h1); (try clear hμ1); (try clear r2); (try clear μ1); (try clear c9); (try clear h9); (try clear eq1); (try clear d1); (try clear c2); (try clear c1); (try clear c4); (try clear c3); (try clear o39); (try clear n4); (try clear n3); (try clear n2); (try clear n1); (try clear o4); (try clear o3); (try clear o2); (try clear o1); (try clear hO9); (try clear hsz); (try clear s₁); (try clear hcan); (try clear hcol); (try clear hq); omega) | omega)), if_neg hop])
                          | (rw [if_neg hlf, if_neg (by omega), if_pos hop])
                          | (rw [if_neg hlf, if_neg (by omega), if_neg hop]; exact hμ7))⟩, by rw [ht9]; exact hP, va_K.moved hW9.alike hK⟩, hS.F ht9⟩) hS.2.2 dX10_waysFrom_68
      · have hop : nod μ q.toNat = 3 := if_get h2 (by (first | ((try clear hop); (try clear h2); (try clear hμ7); (try clear r8); (try clear μ7); (try clear hz9); (try clear c16_); (try clear d2); (try clear m2); (try clear m1); (try clear hlf); (try clear c5_); (try clear h1); (try clear hμ1); (try clear r2); (try clear μ1); (try clear c9); (try clear h9); (try clear eq1); (try clear d1); (try clear c2); (try clear c1); (try clear c4); (try clear c3); (try clear o39); (try clear n4); (try clear n3); (try clear n2); (try clear n1); (try clear o4); (try clear o3); (try clear o2); (try clear o1); (try clear hO9); (try clear hsz); (try clear s₁); (try clear hcan); (try clear hcol); (try clear hq); omega) | omega))
        refine lv_aload_n hx hb dX10_waysFrom_27 rfl (lv_at hl 0 rfl) ?_
        refine fz_get (D := (dC, dI)) (ci := 10) (v := .ref (h0 + 4415)) (C := RX10) (T := TX10) (N := 53) hx hb hts inG10 hown hK hP (k := 0) (by decide) (F := mF h0) mE_obj rfl 43 (by decide) (hts _ k1209) (fun _ h9 => h9) rfl dX10_waysFrom_28 ?_
        refine lv_iload_n hx hb dX10_waysFrom_31 rfl (lv_at hl 1 rfl) ?_
        refine lv_iconst (v := iZ 1) hx hb dX10_waysFrom_32 rfl ?_
        refine lv_iadd hx hb dX10_waysFrom_33 ?_
        refine lv_topi (fun x9 ex9 => ?_)
        obtain rfl : x9 = iZ (q + 1) := ex9.trans (iZ_add _ _)
        refine fz_ald (k := 4415) (n := 1900) (k2 := (4416 + (q + 1).toNat)) hx hb hK hP 2 rfl (by decide) mE_can rfl ⟨by (first | ((try clear ex9); (try clear hop); (try clear c24_); (try clear h2); (try clear hμ7); (try clear μ7); (try clear hz9); (try clear c16_); (try clear d2); (try clear m2); (try clear m1); (try clear hlf); (try clear c5_); (try clear h1); (try clear hμ1); (try clear μ1); (try clear c9); (try clear h9); (try clear eq1); (try clear d1); (try clear c2); (try clear c1); (try clear c4); (try clear c3); (try clear o39); (try clear n4); (try clear n3); (try clear n2); (try clear n1); (try clear o4); (try clear o3); (try clear o2); (try clear o1); (try clear hO9); (try clear hsz); (try clear s₁); (try clear hcan); (try clear hcol); omega) | omega), by (first | ((try clear ex9); (try clear hop); (try clear c24_); (try clear h2); (try clear hμ7); (try clear μ7); (try clear hz9); (try clear c16_); (try clear d2); (try clear m2); (try clear m1); (try clear hlf); (try clear c5_); (try clear h1); (try clear hμ1); (try clear μ1); (try clear c9); (try clear h9); (try clear eq1); (try clear d1); (try clear c2); (try clear c1); (try clear c4); (try clear c3); (try clear o39); (try clear n4); (try clear n3); (try clear n2); (try clear n1); (try clear o4); (try clear o3); (try clear hO9); (try clear hsz); (try clear s₁); (try clear hcan); (try clear hcol); omega) | omega)⟩ (by decide) (if_pos (by (first | ((try clear ex9); (try clear h2); (try clear hμ7); (try clear hz9); (try clear c16_); (try clear d2); (try clear m2); (try clear m1); (try clear hlf); (try clear c5_); (try clear h1); (try clear hμ1); (try clear μ1); (try clear c9); (try clear d1); (try clear c2); (try clear c1); (try clear c4); (try clear c3); (try clear o39); (try clear n4); (try clear n3); (try clear n2); (try clear n1); (try clear o4); (try clear o3); (try clear hO9); (try clear hsz); (try clear s₁); (try clear hcan); (try clear hcol); omega) | omega))) dX10_waysFrom_34 ?_
        refine lv_iload_n hx hb dX10_waysFrom_35 rfl (lv_at hl 2 rfl) ?_
        refine fz_ld (k := (4416 + (q + 1).toNat)) (n := 62) hx hb hK hP 0 (by (first | ((try clear ex9); (try clear h2); (try clear hμ7); (try clear hz9); (try clear c16_); (try clear d2); (try clear m2); (try clear m1); (try clear hlf); (try clear c5_); (try clear h1); (try clear hμ1); (try clear μ1); (try clear c9); (try clear d1); (try clear c2); (try clear c1); (try clear c4); (try clear c3); (try clear o39); (try clear n4); (try clear n3); (try clear n2); (try clear n1); (try clear o4); (try clear o3); (try clear hO9); (try clear hsz); (try clear s₁); (try clear hcan); (try clear hcol); omega) | omega)) (mE_canR (by (first | ((try clear ex9); (try clear h2); (try clear hμ7); (try clear hz9); (try clear c16_); (try clear d2); (try clear m2); (try clear m1); (try clear hlf); (try clear c5_); (try clear h1); (try clear hμ1); (try clear μ1); (try clear c9); (try clear d1); (try clear c2); (try clear c1); (try clear c4); (try clear c3); (try clear o39); (try clear n4); (try clear n3); (try clear n2); (try clear n1); (try clear o4); (try clear o3); (try clear hO9); (try clear hsz); (try clear s₁); (try clear hcan); (try clear hcol); omega) | omega))) rfl ⟨by (first | ((try clear ex9); (try clear hop); (try clear c24_); (try clear h2); (try clear hμ7); (try clear μ7); (try clear hz9); (try clear c16_); (try clear d2); (try clear m2); (try clear m1); (try clear hlf); (try clear c5_); (try clear h1); (try clear hμ1); (try clear μ1); (try clear c9); (try clear h9); (try clear eq1); (try clear d1); (try clear c2); (try clear c1); (try clear c4); (try clear c3); (try clear o39); (try clear n4); (try clear n3); (try clear n2); (try clear n1); (try clear o4); (try clear o3); (try clear o2); (try clear o1); (try clear hO9); (try clear hsz); (try clear s₁); (try clear hcan); (try clear hq); omega) | omega), by (first | ((try clear ex9); (try clear hop); (try clear c24_); (try clear h2); (try clear hμ7); (try clear μ7); (try clear hz9); (try clear c16_); (try clear d2); (try clear m2); (try clear m1); (try clear hlf); (try clear c5_); (try clear h1); (try clear hμ1); (try clear μ1); (try clear c9); (try clear h9); (try clear eq1); (try clear d1); (try clear c2); (try clear c1); (try clear c4); (try clear c3); (try clear o39); (try clear n4); (try clear n3); (try clear n2); (try clear n1); (try clear o4); (try clear o3); (try clear o2); (try clear o1); (try clear hO9); (try clear hsz); (try clear s₁); (try clear hcan); (try clear hq); omega) | omega)⟩ (by decide) dX10_waysFrom_36 ?_
        rw [show μ (4416 + (q + 1).toNat) (col).toNat = μ (4416 + (q.toNat + 1)) col.toNat from (by rw [eq1])]
        refine lv_aload_n hx hb dX10_waysFrom_37 rfl (lv_at hl 0 rfl) ?_
        refine fz_get (D := (dC, dI)) (ci := 10) (v := .ref (h0 + 4415)) (C := RX10) (T := TX10) (N := 53) hx hb hts inG10 hown hK hP (k := 0) (by decide) (F := mF h0) mE_obj rfl 43 (by decide) (hts _ k1209) (fun _ h9 => h9) rfl dX10_waysFrom_38 ?_
        refine lv_aload_n hx hb dX10_waysFrom_41 rfl (lv_at hl 0 rfl) ?_
        refine fz_get (D := (dC, dI)) (ci := 10) (v := .ref (h0 + 4413)) (C := RX10) (T := TX10) (N := 53) hx hb hts inG10 hown hK hP (k := 0) (by decide) (F := mF h0) mE_obj rfl 41 (by decide) (hts _ k1207) (fun _ h9 => h9) rfl dX10_waysFrom_42 ?_
        refine lv_iload_n hx hb dX10_waysFrom_45 rfl (lv_at hl 1 rfl) ?_
        refine fz_ld (k := 4413) (n := 1900) hx hb hK hP 0 (by decide) mE_other rfl ⟨by (first | ((try clear ex9); (try clear hop); (try clear c24_); (try clear h2); (try clear hμ7); (try clear μ7); (try clear hz9); (try clear c16_); (try clear d2); (try clear m2); (try clear m1); (try clear hlf); (try clear c5_); (try clear h1); (try clear hμ1); (try clear μ1); (try clear c9); (try clear h9); (try clear eq1); (try clear d1); (try clear c2); (try clear c1); (try clear c4); (try clear c3); (try clear o39); (try clear n4); (try clear n3); (try clear n2); (try clear n1); (try clear o4); (try clear o3); (try clear o2); (try clear o1); (try clear hO9); (try clear hsz); (try clear s₁); (try clear hcan); (try clear hcol); omega) | omega), by (first | ((try clear ex9); (try clear hop); (try clear c24_); (try clear h2); (try clear hμ7); (try clear μ7); (try clear hz9); (try clear c16_); (try clear d2); (try clear m2); (try clear m1); (try clear hlf); (try clear c5_); (try clear h1); (try clear hμ1); (try clear μ1); (try clear c9); (try clear h9); (try clear eq1); (try clear d1); (try clear c2); (try clear c1); (try clear c4); (try clear c3); (try clear o39); (try clear n4); (try clear n3); (try clear n2); (try clear n1); (try clear o4); (try clear o3); (try clear hO9); (try clear hsz); (try clear s₁); (try clear hcan); (try clear hcol); omega) | omega)⟩ (by decide) dX10_waysFrom_46 ?_
        refine lv_iconst (v := iZ 1) hx hb dX10_waysFrom_47 rfl ?_
        refine lv_iadd hx hb dX10_waysFrom_48 ?_
        refine lv_topi (fun x9 ex9 => ?_)
        obtain rfl : x9 = iZ ((μ 4413 (q).toNat) + 1) := ex9.trans (iZ_add _ _)
        refine fz_ald (k := 4415) (n := 1900) (k2 := (4416 + ((μ 4413 (q).toNat) + 1).toNat)) hx hb hK hP 2 rfl (by decide) mE_can rfl ⟨by (first | ((try clear ex9); (try clear hop); (try clear c24_); (try clear h2); (try clear hμ7); (try clear μ7); (try clear hz9); (try clear c16_); (try clear d2); (try clear m2); (try clear hlf); (try clear c5_); (try clear h1); (try clear hμ1); (try clear μ1); (try clear c9); (try clear h9); (try clear eq1); (try clear d1); (try clear c2); (try clear c1); (try clear c4); (try clear c3); (try clear o39); (try clear n4); (try clear n3); (try clear n2); (try clear n1); (try clear o4); (try clear o3); (try clear o2); (try clear o1); (try clear hO9); (try clear hsz); (try clear s₁); (try clear hcan); (try clear hcol); (try clear hq); omega) | omega), by (first | ((try clear ex9); (try clear hop); (try clear c24_); (try clear h2); (try clear hμ7); (try clear μ7); (try clear hz9); (try clear c16_); (try clear d2); (try clear m1); (try clear hlf); (try clear c5_); (try clear h1); (try clear hμ1); (try clear μ1); (try clear c9); (try clear h9); (try clear eq1); (try clear d1); (try clear c2); (try clear c1); (try clear c4); (try clear c3); (try clear o39); (try clear n4); (try clear n3); (try clear n2); (try clear n1); (try clear o4); (try clear o3); (try clear hO9); (try clear hsz); (try clear s₁); (try clear hcan); (try clear hcol); omega) | omega)⟩ (by decide) (if_pos (by (first | ((try clear ex9); (try clear hop); (try clear c24_); (try clear h2); (try clear hμ7); (try clear μ7); (try clear hz9); (try clear c16_); (try clear d2); (try clear hlf); (try clear c5_); (try clear h1); (try clear hμ1); (try clear μ1); (try clear c9); (try clear h9); (try clear eq1); (try clear d1); (try clear c2); (try clear c1); (try clear c4); (try clear c3); (try clear o39); (try clear n4); (try clear n3); (try clear n2); (try clear n1); (try clear o4); (try clear o3); (try clear hO9); (try clear hsz); (try clear s₁); (try clear hcan); (try clear hcol); omega) | omega))) dX10_waysFrom_49 ?_
        refine lv_iload_n hx hb dX10_waysFrom_50 rfl (lv_at hl 2 rfl) ?_
        refine fz_ld (k := (4416 + ((μ 4413 (q).toNat) + 1).toNat)) (n := 62) hx hb hK hP 0 (by (first | ((try clear ex9); (try clear hop); (try clear c24_); (try clear h2); (try clear hμ7); (try clear μ7); (try clear hz9); (try clear c16_); (try clear d2); (try clear hlf); (try clear c5_); (try clear h1); (try clear hμ1); (try clear μ1); (try clear c9); (try clear h9); (try clear eq1); (try clear d1); (try clear c2); (try clear c1); (try clear c4); (try clear c3); (try clear o39); (try clear n4); (try clear n3); (try clear n2); (try clear n1); (try clear o4); (try clear o3); (try clear hO9); (try clear hsz); (try clear s₁); (try clear hcan); (try clear hcol); omega) | omega)) (mE_canR (by (first | ((try clear ex9); (try clear hop); (try clear c24_); (try clear h2); (try clear hμ7); (try clear μ7); (try clear hz9); (try clear c16_); (try clear d2); (try clear hlf); (try clear c5_); (try clear h1); (try clear hμ1); (try clear μ1); (try clear c9); (try clear h9); (try clear eq1); (try clear d1); (try clear c2); (try clear c1); (try clear c4); (try clear c3); (try clear o39); (try clear n4); (try clear n3); (try clear n2); (try clear n1); (try clear o4); (try clear o3); (try clear hO9); (try clear hsz); (try clear s₁); (try clear hcan); (try clear hcol); omega) | omega))) rfl ⟨by (first | ((try clear ex9); (try clear hop); (try clear c24_); (try clear h2); (try clear hμ7); (try clear μ7); (try clear hz9); (try clear c16_); (try clear d2); (try clear m2); (try clear m1); (try clear hlf); (try clear c5_); (try clear h1); (try clear hμ1); (try clear μ1); (try clear c9); (try clear h9); (try clear eq1); (try clear d1); (try clear c2); (try clear c1); (try clear c4); (try clear c3); (try clear o39); (try clear n4); (try clear n3); (try clear n2); (try clear n1); (try clear o4); (try clear o3); (try clear o2); (try clear o1); (try clear hO9); (try clear hsz); (try clear s₁); (try clear hcan); (try clear hq); omega) | omega), by (first | ((try clear ex9); (try clear hop); (try clear c24_); (try clear h2); (try clear hμ7); (try clear μ7); (try clear hz9); (try clear c16_); (try clear d2); (try clear m2); (try clear m1); (try clear hlf); (try clear c5_); (try clear h1); (try clear hμ1); (try clear μ1); (try clear c9); (try clear h9); (try clear eq1); (try clear d1); (try clear c2); (try clear c1); (try clear c4); (try clear c3); (try clear o39); (try clear n4); (try clear n3); (try clear n2); (try clear n1); (try clear o4); (try clear o3); (try clear o2); (try clear o1); (try clear hO9); (try clear hsz); (try clear s₁); (try clear hcan); (try clear hq); omega) | omega)⟩ (by decide) dX10_waysFrom_51 ?_
        refine va_calli (va_runS (As := [.int (iZ (μ (4416 + (q.toNat + 1)) col.toNat)), .int (iZ (μ (4416 + ((μ 4413 (q).toNat) + 1).toNat) (col).toNat))]) (rest := []) ⟨hx, hb, hml, hown, hts⟩ (m_sum l dC dI cI cZ cII cIII h0 H.size μ (μ (4416 + (q.toNat + 1)) col.toNat) (μ (4416 + ((μ 4413 (q).toNat) + 1).toNat) (col).toNat) (by (first | ((try clear ex9); (try clear hop); (try clear c24_); (try clear h2); (try clear hμ7); (try clear r8); (try clear μ7); (try clear hz9); (try clear c16_); (try clear d2); (try clear m2); (try clear m1); (try clear hlf); (try clear c5_); (try clear h1); (try clear hμ1); (try clear r2); (try clear μ1); (try clear c9); (try clear h9); (try clear eq1); (try clear c2); (try clear c1); (try clear c4); (try clear c3); (try clear o39); (try clear n4); (try clear n3); (try clear n2); (try clear n1); (try clear o4); (try clear o3); (try clear o2); (try clear o1); (try clear hO9); (try clear hsz); (try clear s₁); (try clear hcan); (try clear hcol); (try clear hq); omega) | omega)) (by (first | ((try clear ex9); (try clear hop); (try clear c24_); (try clear h2); (try clear hμ7); (try clear r8); (try clear μ7); (try clear hz9); (try clear c16_); (try clear m2); (try clear m1); (try clear hlf); (try clear c5_); (try clear h1); (try clear hμ1); (try clear r2); (try clear μ1); (try clear c9); (try clear h9); (try clear eq1); (try clear d1); (try clear c2); (try clear c1); (try clear c4); (try clear c3); (try clear o39); (try clear n4); (try clear n3); (try clear n2); (try clear n1); (try clear o4); (try clear o3); (try clear o2); (try clear o1); (try clear hO9); (try clear hsz); (try clear s₁); (try clear hcan); (try clear hcol); (try clear hq); omega) | omega))) (cwS 2 hts (gS_G k1528 k1529 k13 k1530) rfl rfl rfl (by decide +kernel) ⟨Nat.le_of_ble_eq_true rfl, Nat.le_of_ble_eq_true rfl⟩) ⟨fun a U g mk q => by obtain ⟨q0, q1, qP, qK⟩ := q; exact ⟨q0, q1, qP, va_K.moved (u := U) (U := U.calling g mk a) (Vm.Alike.refl U.vm) qK⟩, fun U hU hW => ⟨rfl, by rw [hU], by rw [hU]; exact hP, va_K.moved hW.alike hK⟩⟩ rfl rfl hl.1 rfl (lv_room (Nat.le_of_ble_eq_true rfl)) dX10_waysFrom_52 ⟨Nat.le_of_ble_eq_true rfl, Nat.le_of_ble_eq_true rfl⟩) hS (fun q _ h => fA_le hS.1 q h) (fA_le hS.1) (fun r9 u9 t9 H1 locs ht9 hvm9 hw9 hB9 hz9 hk9 hS => ?_)
        obtain ⟨μ10, r11⟩ := u9
        obtain ⟨hP, -⟩ := hB9
        rw [ht9] at hP
        generalize H1 = H at hP hS ⊢
        obtain ⟨e9, hw9⟩ := hw9
        have e9 : r9 = iZ r11 := e9
        subst e9
        simp only at hP hw9
        have hμ10 := hw9; clear hw9
        rw [hμ10.1] at hP; have hμ10 := hμ10.2
        refine lv_goto (tgt := 68) hx hb dX10_waysFrom_55 (by decide) ?_
        exact W.iret (v := iZ (r11)) hx hb hr (fun t9 ht9 hW9 => ⟨⟨iZ (r11), (μ, r11), rfl, ⟨rfl, (by
                        dsimp only
                        refine ⟨rfl, ?_⟩
                        unfold wF
                        first
                          | (rw [if_pos hlf])
                          | (rw [if_neg hlf, if_pos (by (first | ((try clear if_pos); (try clear hlf); (try clear if_neg); (try clear hμ10); (try clear r11); (try clear μ10); (try clear hz9); (try clear ex9); (try clear hop); (try clear c24_); (try clear h2); (try clear hμ7); (try clear r8); (try clear μ7); (try clear d2); (try clear m2); (try clear m1); (try clear c5_); (try clear h1); (try clear hμ1); (try clear r2); (try clear μ1); (try clear c9); (try clear h9); (try clear eq1); (try clear d1); (try clear c2); (try clear c1); (try clear c4); (try clear c3); (try clear o39); (try clear n4); (try clear n3); (try clear n2); (try clear n1); (try clear o4); (try clear o3); (try clear o2); (try clear o1); (try clear hO9); (try clear hsz); (try clear s₁); (try clear hcan); (try clear hcol); (try clear hq); omega) | omega)), if_pos hop]; exact hμ10)
                          | (rw [if_neg hlf, if_pos (by omega), if_neg hop])
                          | (rw [if_neg hlf, if_neg (by omega), if_pos hop])
                          | (rw [if_neg hlf, if_neg (by omega), if_neg hop]; exact hμ10))⟩, by rw [ht9]; exact hP, va_K.moved hW9.alike hK⟩, hS.F ht9⟩) hS.2.2 dX10_waysFrom_68
  · have hlf : nod μ q.toNat < 3 := if_get h1 (by (first | ((try clear hlf); (try clear h1); (try clear hμ1); (try clear r2); (try clear μ1); (try clear hz9); (try clear c9); (try clear h9); (try clear eq1); (try clear d1); (try clear c2); (try clear c1); (try clear c4); (try clear c3); (try clear o39); (try clear n4); (try clear n3); (try clear n2); (try clear n1); (try clear o4); (try clear o3); (try clear o2); (try clear o1); (try clear hO9); (try clear hsz); (try clear s₁); (try clear hcan); (try clear hcol); (try clear hq); omega) | omega))
    refine lv_iload_n hx hb dX10_waysFrom_8 rfl (lv_at hl 3 rfl) ?_
    exact W.iret (v := iZ (tk)) hx hb hr (fun t9 ht9 hW9 => ⟨⟨iZ (tk), (μ, tk), rfl, ⟨rfl, (by
                dsimp only
                refine ⟨rfl, ?_⟩
                unfold wF
                first
                  | (rw [if_pos hlf])
                  | (rw [if_neg hlf, if_pos (by omega), if_pos hop]; exact hμ1)
                  | (rw [if_neg hlf, if_pos (by omega), if_neg hop])
                  | (rw [if_neg hlf, if_neg (by omega), if_pos hop])
                  | (rw [if_neg hlf, if_neg (by omega), if_neg hop]; exact hμ1))⟩, by rw [ht9]; exact hP, va_K.moved hW9.alike hK⟩, hS.F ht9⟩) hS.2.2 dX10_waysFrom_9
set_option maxHeartbeats 4000000 in
set_option maxRecDepth 100000 in
theorem m_cutsFrom (l : Launch) (dC : Nat → ClassId) (dI : Nat → Nat → Nat) (cI cZ cII cIII : ClassId) (h0 sz : Nat) (μ : va_M) (q : Int) (col : Int) (tk : Int) (hO : stOK μ) (hq : 0 ≤ q ∧ q < μ 0 39) (hcol : 0 ≤ col ∧ col < 62) (hcan : ∀ x : Nat, (x : Int) ≤ μ 0 39 → 0 ≤ μ (4416 + x) col.toNat ∧ μ (4416 + x) col.toNat ≤ 1000000000) : Met l yX10_cutsFrom (Cond.code yX10_cutsFrom cX10_cutsFrom 4 (some .int) :: wsG) ({ frames := 2, cells := 0, slots := 0, locals := 35 } : Room) (va_Pc [.ref h0, .int (iZ (q)), .int (iZ (col)), .int (iZ (tk))] (fun U => U.heap.size = sz ∧ va_P (dC, dI) vwCl (fw (mE cI cZ cII cIII h0) h0 6325 μ) U.heap ∧ va_K (dC, dI) vwCl (mT cI cZ cII cIII) U)) (va_Qi (fun (r9 : Int32) (u : va_M × Int) => r9 = iZ u.2 ∧ (fun (u : va_M) (r : Int) => u = μ ∧ r = cF μ q.toNat col.toNat tk) u.1 u.2) (fun u t => va_P (dC, dI) vwCl (fw (mE cI cZ cII cIII h0) h0 6325 u.1) t.heap ∧ va_K (dC, dI) vwCl (mT cI cZ cII cIII) t) (fA h0 6325 sz)) 0 0 (fA h0 6325 sz) := by
  refine Met.ofW (cc := cX10_cutsFrom) (maxL := 4) (ret := (some .int)) (by decide) rfl ?_
  intro p e s m args below meth c s₁ B hml hv
  obtain ⟨rfl, hsz, hP, hK⟩ := hv
  have hx := B.exec
  have hb := B.bytes
  have hr := B.returns
  have hts : ∀ w ∈ wsG, w.before _ s = true := hG_of (atoms_spec (ws := (Cond.code yX10_cutsFrom cX10_cutsFrom 4 (some .int) :: wsG)) B.pre)
  have hown : s.vm.findClass RX10 = some m.cls := findClass_of_methodNamed B.named
  have hlocks := B.notSynchronized
  subst hsz
  have hS : va_S (fA h0 6325 s.heap.size) s.heap s.heap [] := va_S.rf
  have hl := lv_entry ([.ref h0, .int (iZ (q)), .int (iZ (col)), .int (iZ (tk))]) (n := 4) (Nat.le_of_ble_eq_true rfl)
  rw [lg_entry_eq]
  generalize (lg_sl ([.ref h0, .int (iZ (q)), .int (iZ (col)), .int (iZ (tk))]) ++ List.replicate (4 - (lg_sl ([.ref h0, .int (iZ (q)), .int (iZ (col)), .int (iZ (tk))])).length) Slot.unset).toArray = ls at hl ⊢
  have hl : lv_has ls 4 [(0, .ref h0), (1, .int (iZ (q))), (2, .int (iZ (col))), (3, .int (iZ (tk)))] := hl
  have hO9 := hO
  obtain ⟨o1, o2, o3, o4⟩ := hO
  obtain ⟨⟨n1, n2⟩, n3, n4⟩ := o4 q.toNat (by (first | ((try clear n4); (try clear n3); (try clear n2); (try clear n1); (try clear o4); (try clear o3); (try clear hO9); (try clear hsz); (try clear s₁); (try clear hcan); (try clear hcol); omega) | omega))
  have o39 := o3.2.1
  obtain ⟨c1, c2, c3, c4⟩ := o3.2.2 (μ 4412 q.toNat).toNat (by (first | ((try clear c4); (try clear c3); (try clear c2); (try clear c1); (try clear n4); (try clear n3); (try clear o4); (try clear o3); (try clear o2); (try clear o1); (try clear hO9); (try clear hsz); (try clear s₁); (try clear hcan); (try clear hcol); (try clear hq); omega) | omega))
  have c1 : 0 ≤ μ 507 (μ 4412 q.toNat).toNat ∧ μ 507 (μ 4412 q.toNat).toNat ≤ 4 := c1
  have c2 : -1 ≤ μ 578 (μ 4412 q.toNat).toNat ∧ μ 578 (μ 4412 q.toNat).toNat < 200 := c2
  have d1 := hcan (q.toNat + 1) (by (first | ((try clear d1); (try clear c2); (try clear c1); (try clear c4); (try clear c3); (try clear o39); (try clear n4); (try clear n3); (try clear n2); (try clear n1); (try clear o4); (try clear o3); (try clear hO9); (try clear hsz); (try clear s₁); (try clear hcan); (try clear hcol); omega) | omega))
  have eq1 : (q + 1).toNat = q.toNat + 1 := by (first | ((try clear eq1); (try clear d1); (try clear c2); (try clear c1); (try clear c4); (try clear c3); (try clear o39); (try clear n4); (try clear n3); (try clear n2); (try clear n1); (try clear o4); (try clear o3); (try clear o2); (try clear o1); (try clear hO9); (try clear hsz); (try clear s₁); (try clear hcan); (try clear hcol); omega) | omega)
  have h9 : 3 ≤ nod μ q.toNat → 0 ≤ μ 4413 q.toNat ∧ μ 4413 q.toNat < μ 0 39 := n4
  have c9 : 0 ≤ nod μ q.toNat ∧ nod μ q.toNat ≤ 4 := c1
  refine lv_aload_n hx hb dX10_cutsFrom_0 rfl (lv_at hl 0 rfl) ?_
  refine lv_iload_n hx hb dX10_cutsFrom_1 rfl (lv_at hl 1 rfl) ?_
  refine va_calli (va_runV (As := [.int (iZ (q))]) (rest := []) ⟨hx, hb, hml, hown, hts⟩ (m_isLeaf l dC dI cI cZ cII cIII h0 s.heap.size μ (q) (by first | assumption | omega | exact ⟨by omega, by omega⟩) (by first | assumption | omega | exact ⟨by omega, by omega⟩)) (cwV 1 hts (gV_G k1512 k1514 ks_yX10_isLeaf k13 k1515) rfl rfl rfl (by decide +kernel) ⟨Nat.le_of_ble_eq_true rfl, Nat.le_of_ble_eq_true rfl⟩) ⟨fun a U g mk q => by obtain ⟨q0, q1, qP, qK⟩ := q; exact ⟨q0, q1, qP, va_K.moved (u := U) (U := U.calling g mk a) (Vm.Alike.refl U.vm) qK⟩, va_recv hK hP (ci := 10) (q0 := 0) rfl ((fw_get (by decide)).trans (by rw [mE_obj]; rfl)), fun U hU hW => ⟨rfl, by rw [hU], by rw [hU]; exact hP, va_K.moved hW.alike hK⟩⟩ rfl rfl hl.1 rfl (lv_room (Nat.le_of_ble_eq_true rfl)) dX10_cutsFrom_2 ⟨Nat.le_of_ble_eq_true rfl, Nat.le_of_ble_eq_true rfl⟩) hS (fun q _ h => fA_le hS.1 q h) (fA_le hS.1) (fun r9 u9 t9 H1 locs ht9 hvm9 hw9 hB9 hz9 hk9 hS => ?_)
  obtain ⟨μ1, r2⟩ := u9
  obtain ⟨hP, -⟩ := hB9
  rw [ht9] at hP
  generalize H1 = H at hP hS ⊢
  obtain ⟨e9, hw9⟩ := hw9
  have e9 : r9 = iZ r2 := e9
  subst e9
  simp only at hP hw9
  have hμ1 := hw9; clear hw9
  rw [hμ1.1] at hP; have hμ1 := hμ1.2
  have h1 := hμ1
  refine fz_if_eq (tgt := 10) (by constructor <;> (first | ((try clear h1); (try clear hμ1); (try clear hz9); (try clear c9); (try clear h9); (try clear eq1); (try clear d1); (try clear c2); (try clear c1); (try clear c4); (try clear c3); (try clear o39); (try clear n4); (try clear n3); (try clear n2); (try clear n1); (try clear o4); (try clear o3); (try clear o2); (try clear o1); (try clear hO9); (try clear hsz); (try clear s₁); (try clear hcan); (try clear hcol); (try clear hq); omega) | omega)) hx hb dX10_cutsFrom_5 (by decide) (fun c5_ => ?_) (fun c5_ => ?_)
  · have hlf : ¬ nod μ q.toNat < 3 := fun h => by rw [if_pos h] at h1; (first | ((try clear h); (try clear hlf); (try clear hμ1); (try clear hz9); (try clear c9); (try clear h9); (try clear eq1); (try clear d1); (try clear c2); (try clear c1); (try clear c4); (try clear c3); (try clear o39); (try clear n4); (try clear n3); (try clear n2); (try clear n1); (try clear o4); (try clear o3); (try clear o2); (try clear o1); (try clear hO9); (try clear hsz); (try clear s₁); (try clear hcan); (try clear hcol); (try clear hq); omega) | omega)
    obtain ⟨m1, m2⟩ := h9 (by (first | ((try clear m2); (try clear m1); (try clear c5_); (try clear h1); (try clear hμ1); (try clear μ1); (try clear hz9); (try clear h9); (try clear eq1); (try clear d1); (try clear c2); (try clear c1); (try clear c4); (try clear c3); (try clear o39); (try clear n4); (try clear n3); (try clear n2); (try clear n1); (try clear o4); (try clear o3); (try clear o2); (try clear o1); (try clear hO9); (try clear hsz); (try clear s₁); (try clear hcan); (try clear hcol); (try clear hq); omega) | omega))
    have d2 := hcan (μ 4413 q.toNat + 1).toNat (by (first | ((try clear d2); (try clear hlf); (try clear c5_); (try clear h1); (try clear hμ1); (try clear μ1); (try clear hz9); (try clear c9); (try clear h9); (try clear eq1); (try clear d1); (try clear c2); (try clear c1); (try clear c4); (try clear c3); (try clear o39); (try clear n4); (try clear n3); (try clear n2); (try clear n1); (try clear o4); (try clear o3); (try clear o2); (try clear o1); (try clear hO9); (try clear hsz); (try clear s₁); (try clear hcan); (try clear hcol); (try clear hq); omega) | omega))
    refine lv_aload_n hx hb dX10_cutsFrom_10 rfl (lv_at hl 0 rfl) ?_
    refine fz_get (D := (dC, dI)) (ci := 10) (v := .ref (h0 + 4414)) (C := RX10) (T := TX10) (N := 53) hx hb hts inG10 hown hK hP (k := 0) (by decide) (F := mF h0) mE_obj rfl 42 (by decide) (hts _ k1208) (fun _ h9 => h9) rfl dX10_cutsFrom_11 ?_
    refine lv_iload_n hx hb dX10_cutsFrom_14 rfl (lv_at hl 1 rfl) ?_
    refine fz_zld (k := 4414) (n := 1900) hx hb hK hP 1 (by decide) mE_isEnd rfl ⟨by (first | ((try clear d2); (try clear m2); (try clear m1); (try clear hlf); (try clear c5_); (try clear h1); (try clear hμ1); (try clear μ1); (try clear hz9); (try clear c9); (try clear h9); (try clear eq1); (try clear d1); (try clear c2); (try clear c1); (try clear c4); (try clear c3); (try clear o39); (try clear n4); (try clear n3); (try clear n2); (try clear n1); (try clear o4); (try clear o3); (try clear o2); (try clear o1); (try clear hO9); (try clear hsz); (try clear s₁); (try clear hcan); (try clear hcol); omega) | omega), by (first | ((try clear d2); (try clear m2); (try clear m1); (try clear hlf); (try clear c5_); (try clear h1); (try clear hμ1); (try clear μ1); (try clear hz9); (try clear c9); (try clear h9); (try clear eq1); (try clear d1); (try clear c2); (try clear c1); (try clear c4); (try clear c3); (try clear o39); (try clear n4); (try clear n3); (try clear n2); (try clear n1); (try clear o4); (try clear o3); (try clear hO9); (try clear hsz); (try clear s₁); (try clear hcan); (try clear hcol); omega) | omega)⟩ (by decide) dX10_cutsFrom_15 ?_
    refine fz_if_ne (tgt := 69) (by constructor <;> (first | ((try clear d2); (try clear m2); (try clear m1); (try clear c5_); (try clear h1); (try clear hμ1); (try clear μ1); (try clear hz9); (try clear eq1); (try clear d1); (try clear c2); (try clear c1); (try clear c4); (try clear c3); (try clear o4); (try clear o3); (try clear o2); (try clear o1); (try clear hO9); (try clear hsz); (try clear s₁); (try clear hcan); (try clear hcol); omega) | omega)) hx hb dX10_cutsFrom_16 (by decide) (fun c16_ => ?_) (fun c16_ => ?_)
    · refine lv_aload_n hx hb dX10_cutsFrom_69 rfl (lv_at hl 0 rfl) ?_
      refine lv_iload_n hx hb dX10_cutsFrom_70 rfl (lv_at hl 1 rfl) ?_
      refine va_calli (va_runV (As := [.int (iZ (q))]) (rest := []) ⟨hx, hb, hml, hown, hts⟩ (m_isOption l dC dI cI cZ cII cIII h0 H.size μ (q) (by first | assumption | omega | exact ⟨by omega, by omega⟩) (by first | assumption | omega | exact ⟨by omega, by omega⟩)) (cwV 1 hts (gV_G k1524 k1526 ks_yX10_isOption k13 k1527) rfl rfl rfl (by decide +kernel) ⟨Nat.le_of_ble_eq_true rfl, Nat.le_of_ble_eq_true rfl⟩) ⟨fun a U g mk q => by obtain ⟨q0, q1, qP, qK⟩ := q; exact ⟨q0, q1, qP, va_K.moved (u := U) (U := U.calling g mk a) (Vm.Alike.refl U.vm) qK⟩, va_recv hK hP (ci := 10) (q0 := 0) rfl ((fw_get (by decide)).trans (by rw [mE_obj]; rfl)), fun U hU hW => ⟨rfl, by rw [hU], by rw [hU]; exact hP, va_K.moved hW.alike hK⟩⟩ rfl rfl hl.1 rfl (lv_room (Nat.le_of_ble_eq_true rfl)) dX10_cutsFrom_71 ⟨Nat.le_of_ble_eq_true rfl, Nat.le_of_ble_eq_true rfl⟩) hS (fun q _ h => fA_le hS.1 q h) (fA_le hS.1) (fun r9 u9 t9 H1 locs ht9 hvm9 hw9 hB9 hz9 hk9 hS => ?_)
      obtain ⟨μ3, r4⟩ := u9
      obtain ⟨hP, -⟩ := hB9
      rw [ht9] at hP
      generalize H1 = H at hP hS ⊢
      obtain ⟨e9, hw9⟩ := hw9
      have e9 : r9 = iZ r4 := e9
      subst e9
      simp only at hP hw9
      have hμ3 := hw9; clear hw9
      rw [hμ3.1] at hP; have hμ3 := hμ3.2
      have h2 := hμ3
      refine fz_if_eq (tgt := 90) (by constructor <;> (first | ((try clear h2); (try clear hμ3); (try clear hz9); (try clear c16_); (try clear d2); (try clear m2); (try clear m1); (try clear hlf); (try clear c5_); (try clear h1); (try clear hμ1); (try clear μ1); (try clear c9); (try clear h9); (try clear eq1); (try clear d1); (try clear c2); (try clear c1); (try clear c4); (try clear c3); (try clear o39); (try clear n4); (try clear n3); (try clear n2); (try clear n1); (try clear o4); (try clear o3); (try clear o2); (try clear o1); (try clear hO9); (try clear hsz); (try clear s₁); (try clear hcan); (try clear hcol); (try clear hq); omega) | omega)) hx hb dX10_cutsFrom_74 (by decide) (fun c74_ => ?_) (fun c74_ => ?_)
      · have hop : ¬ nod μ q.toNat = 3 := if_not h2 (by (first | ((try clear hop); (try clear h2); (try clear hμ3); (try clear r4); (try clear μ3); (try clear hz9); (try clear c16_); (try clear d2); (try clear m2); (try clear m1); (try clear hlf); (try clear c5_); (try clear h1); (try clear hμ1); (try clear r2); (try clear μ1); (try clear c9); (try clear h9); (try clear eq1); (try clear d1); (try clear c2); (try clear c1); (try clear c4); (try clear c3); (try clear o39); (try clear n4); (try clear n3); (try clear n2); (try clear n1); (try clear o4); (try clear o3); (try clear o2); (try clear o1); (try clear hO9); (try clear hsz); (try clear s₁); (try clear hcan); (try clear hcol); (try clear hq); omega) | omega))
        refine lv_aload_n hx hb dX10_cutsFrom_90 rfl (lv_at hl 0 rfl) ?_
        refine fz_get (D := (dC, dI)) (ci := 10) (v := .ref (h0 + 4415)) (C := RX10) (T := TX10) (N := 53) hx hb hts inG10 hown hK hP (k := 0) (by decide) (F := mF h0) mE_obj rfl 43 (by decide) (hts _ k1209) (fun _ h9 => h9) rfl dX10_cutsFrom_91 ?_
        refine lv_aload_n hx hb dX10_cutsFrom_94 rfl (lv_at hl 0 rfl) ?_
        refine fz_get (D := (dC, dI)) (ci := 10) (v := .ref (h0 + 4413)) (C := RX10) (T := TX10) (N := 53) hx hb hts inG10 hown hK hP (k := 0) (by decide) (F := mF h0) mE_obj rfl 41 (by decide) (hts _ k1207) (fun _ h9 => h9) rfl dX10_cutsFrom_95 ?_
        refine lv_iload_n hx hb dX10_cutsFrom_98 rfl (lv_at hl 1 rfl) ?_
        refine fz_ld (k := 4413) (n := 1900) hx hb hK hP 0 (by decide) mE_other rfl ⟨by (first | ((try clear hop); (try clear c74_); (try clear h2); (try clear hμ3); (try clear μ3); (try clear hz9); (try clear c16_); (try clear d2); (try clear m2); (try clear m1); (try clear hlf); (try clear c5_); (try clear h1); (try clear hμ1); (try clear μ1); (try clear c9); (try clear h9); (try clear eq1); (try clear d1); (try clear c2); (try clear c1); (try clear c4); (try clear c3); (try clear o39); (try clear n4); (try clear n3); (try clear n2); (try clear n1); (try clear o4); (try clear o3); (try clear o2); (try clear o1); (try clear hO9); (try clear hsz); (try clear s₁); (try clear hcan); (try clear hcol); omega) | omega), by (first | ((try clear hop); (try clear c74_); (try clear h2); (try clear hμ3); (try clear μ3); (try clear hz9); (try clear c16_); (try clear d2); (try clear m2); (try clear m1); (try clear hlf); (try clear c5_); (try clear h1); (try clear hμ1); (try clear μ1); (try clear c9); (try clear h9); (try clear eq1); (try clear d1); (try clear c2); (try clear c1); (try clear c4); (try clear c3); (try clear o39); (try clear n4); (try clear n3); (try clear n2); (try clear n1); (try clear o4); (try clear o3); (try clear hO9); (try clear hsz); (try clear s₁); (try clear hcan); (try clear hcol); omega) | omega)⟩ (by decide) dX10_cutsFrom_99 ?_
        refine lv_iconst (v := iZ 1) hx hb dX10_cutsFrom_100 rfl ?_
        refine lv_iadd hx hb dX10_cutsFrom_101 ?_
        refine lv_topi (fun x9 ex9 => ?_)
        obtain rfl : x9 = iZ ((μ 4413 (q).toNat) + 1) := ex9.trans (iZ_add _ _)
        refine fz_ald (k := 4415) (n := 1900) (k2 := (4416 + ((μ 4413 (q).toNat) + 1).toNat)) hx hb hK hP 2 rfl (by decide) mE_can rfl ⟨by (first | ((try clear ex9); (try clear hop); (try clear c74_); (try clear h2); (try clear hμ3); (try clear μ3); (try clear hz9); (try clear c16_); (try clear d2); (try clear m2); (try clear hlf); (try clear c5_); (try clear h1); (try clear hμ1); (try clear μ1); (try clear c9); (try clear h9); (try clear eq1); (try clear d1); (try clear c2); (try clear c1); (try clear c4); (try clear c3); (try clear o39); (try clear n4); (try clear n3); (try clear n2); (try clear n1); (try clear o4); (try clear o3); (try clear o2); (try clear o1); (try clear hO9); (try clear hsz); (try clear s₁); (try clear hcan); (try clear hcol); (try clear hq); omega) | omega), by (first | ((try clear ex9); (try clear hop); (try clear c74_); (try clear h2); (try clear hμ3); (try clear μ3); (try clear hz9); (try clear c16_); (try clear d2); (try clear m1); (try clear hlf); (try clear c5_); (try clear h1); (try clear hμ1); (try clear μ1); (try clear c9); (try clear h9); (try clear eq1); (try clear d1); (try clear c2); (try clear c1); (try clear c4); (try clear c3); (try clear o39); (try clear n4); (try clear n3); (try clear n2); (try clear n1); (try clear o4); (try clear o3); (try clear hO9); (try clear hsz); (try clear s₁); (try clear hcan); (try clear hcol); omega) | omega)⟩ (by decide) (if_pos (by (first | ((try clear ex9); (try clear hop); (try clear c74_); (try clear h2); (try clear hμ3); (try clear μ3); (try clear hz9); (try clear c16_); (try clear d2); (try clear hlf); (try clear c5_); (try clear h1); (try clear hμ1); (try clear μ1); (try clear c9); (try clear h9); (try clear eq1); (try clear d1); (try clear c2); (try clear c1); (try clear c4); (try clear c3); (try clear o39); (try clear n4); (try clear n3); (try clear n2); (try clear n1); (try clear o4); (try clear o3); (try clear hO9); (try clear hsz); (try clear s₁); (try clear hcan); (try clear hcol); omega) | omega))) dX10_cutsFrom_102 ?_
        refine lv_iload_n hx hb dX10_cutsFrom_103 rfl (lv_at hl 2 rfl) ?_
        refine fz_ld (k := (4416 + ((μ 4413 (q).toNat) + 1).toNat)) (n := 62) hx hb hK hP 0 (by (first | ((try clear ex9); (try clear hop); (try clear c74_); (try clear h2); (try clear hμ3); (try clear μ3); (try clear hz9); (try clear c16_); (try clear d2); (try clear hlf); (try clear c5_); (try clear h1); (try clear hμ1); (try clear μ1); (try clear c9); (try clear h9); (try clear eq1); (try clear d1); (try clear c2); (try clear c1); (try clear c4); (try clear c3); (try clear o39); (try clear n4); (try clear n3); (try clear n2); (try clear n1); (try clear o4); (try clear o3); (try clear hO9); (try clear hsz); (try clear s₁); (try clear hcan); (try clear hcol); omega) | omega)) (mE_canR (by (first | ((try clear ex9); (try clear hop); (try clear c74_); (try clear h2); (try clear hμ3); (try clear μ3); (try clear hz9); (try clear c16_); (try clear d2); (try clear hlf); (try clear c5_); (try clear h1); (try clear hμ1); (try clear μ1); (try clear c9); (try clear h9); (try clear eq1); (try clear d1); (try clear c2); (try clear c1); (try clear c4); (try clear c3); (try clear o39); (try clear n4); (try clear n3); (try clear n2); (try clear n1); (try clear o4); (try clear o3); (try clear hO9); (try clear hsz); (try clear s₁); (try clear hcan); (try clear hcol); omega) | omega))) rfl ⟨by (first | ((try clear ex9); (try clear hop); (try clear c74_); (try clear h2); (try clear hμ3); (try clear μ3); (try clear hz9); (try clear c16_); (try clear d2); (try clear m2); (try clear m1); (try clear hlf); (try clear c5_); (try clear h1); (try clear hμ1); (try clear μ1); (try clear c9); (try clear h9); (try clear eq1); (try clear d1); (try clear c2); (try clear c1); (try clear c4); (try clear c3); (try clear o39); (try clear n4); (try clear n3); (try clear n2); (try clear n1); (try clear o4); (try clear o3); (try clear o2); (try clear o1); (try clear hO9); (try clear hsz); (try clear s₁); (try clear hcan); (try clear hq); omega) | omega), by (first | ((try clear ex9); (try clear hop); (try clear c74_); (try clear h2); (try clear hμ3); (try clear μ3); (try clear hz9); (try clear c16_); (try clear d2); (try clear m2); (try clear m1); (try clear hlf); (try clear c5_); (try clear h1); (try clear hμ1); (try clear μ1); (try clear c9); (try clear h9); (try clear eq1); (try clear d1); (try clear c2); (try clear c1); (try clear c4); (try clear c3); (try clear o39); (try clear n4); (try clear n3); (try clear n2); (try clear n1); (try clear o4); (try clear o3); (try clear o2); (try clear o1); (try clear hO9); (try clear hsz); (try clear s₁); (try clear hcan); (try clear hq); omega) | omega)⟩ (by decide) dX10_cutsFrom_104 ?_
        refine lv_aload_n hx hb dX10_cutsFrom_105 rfl (lv_at hl 0 rfl) ?_
        refine fz_get (D := (dC, dI)) (ci := 10) (v := .ref (h0 + 4415)) (C := RX10) (T := TX10) (N := 53) hx hb hts inG10 hown hK hP (k := 0) (by decide) (F := mF h0) mE_obj rfl 43 (by decide) (hts _ k1209) (fun _ h9 => h9) rfl dX10_cutsFrom_106 ?_
        refine lv_iload_n hx hb dX10_cutsFrom_109 rfl (lv_at hl 1 rfl) ?_
        refine lv_iconst (v := iZ 1) hx hb dX10_cutsFrom_110 rfl ?_
        refine lv_iadd hx hb dX10_cutsFrom_111 ?_
        refine lv_topi (fun x9 ex9 => ?_)
        obtain rfl : x9 = iZ (q + 1) := ex9.trans (iZ_add _ _)
        refine fz_ald (k := 4415) (n := 1900) (k2 := (4416 + (q + 1).toNat)) hx hb hK hP 2 rfl (by decide) mE_can rfl ⟨by (first | ((try clear ex9); (try clear hop); (try clear c74_); (try clear h2); (try clear hμ3); (try clear μ3); (try clear hz9); (try clear c16_); (try clear d2); (try clear m2); (try clear m1); (try clear hlf); (try clear c5_); (try clear h1); (try clear hμ1); (try clear μ1); (try clear c9); (try clear h9); (try clear eq1); (try clear d1); (try clear c2); (try clear c1); (try clear c4); (try clear c3); (try clear o39); (try clear n4); (try clear n3); (try clear n2); (try clear n1); (try clear o4); (try clear o3); (try clear o2); (try clear o1); (try clear hO9); (try clear hsz); (try clear s₁); (try clear hcan); (try clear hcol); omega) | omega), by (first | ((try clear ex9); (try clear hop); (try clear c74_); (try clear h2); (try clear hμ3); (try clear μ3); (try clear hz9); (try clear c16_); (try clear d2); (try clear m2); (try clear m1); (try clear hlf); (try clear c5_); (try clear h1); (try clear hμ1); (try clear μ1); (try clear c9); (try clear h9); (try clear eq1); (try clear d1); (try clear c2); (try clear c1); (try clear c4); (try clear c3); (try clear o39); (try clear n4); (try clear n3); (try clear n2); (try clear n1); (try clear o4); (try clear o3); (try clear hO9); (try clear hsz); (try clear s₁); (try clear hcan); (try clear hcol); omega) | omega)⟩ (by decide) (if_pos (by (first | ((try clear ex9); (try clear c74_); (try clear h2); (try clear hμ3); (try clear μ3); (try clear hz9); (try clear d2); (try clear m2); (try clear m1); (try clear c5_); (try clear h1); (try clear hμ1); (try clear μ1); (try clear d1); (try clear c2); (try clear c1); (try clear c4); (try clear c3); (try clear o39); (try clear n4); (try clear n3); (try clear n2); (try clear n1); (try clear o4); (try clear o3); (try clear hO9); (try clear hsz); (try clear s₁); (try clear hcan); (try clear hcol); omega) | omega))) dX10_cutsFrom_112 ?_
        refine lv_iload_n hx hb dX10_cutsFrom_113 rfl (lv_at hl 2 rfl) ?_
        refine fz_ld (k := (4416 + (q + 1).toNat)) (n := 62) hx hb hK hP 0 (by (first | ((try clear ex9); (try clear c74_); (try clear h2); (try clear hμ3); (try clear μ3); (try clear hz9); (try clear d2); (try clear m2); (try clear m1); (try clear c5_); (try clear h1); (try clear hμ1); (try clear μ1); (try clear d1); (try clear c2); (try clear c1); (try clear c4); (try clear c3); (try clear o39); (try clear n4); (try clear n3); (try clear n2); (try clear n1); (try clear o4); (try clear o3); (try clear hO9); (try clear hsz); (try clear s₁); (try clear hcan); (try clear hcol); omega) | omega)) (mE_canR (by (first | ((try clear ex9); (try clear c74_); (try clear h2); (try clear hμ3); (try clear μ3); (try clear hz9); (try clear d2); (try clear m2); (try clear m1); (try clear c5_); (try clear h1); (try clear hμ1); (try clear μ1); (try clear d1); (try clear c2); (try clear c1); (try clear c4); (try clear c3); (try clear o39); (try clear n4); (try clear n3); (try clear n2); (try clear n1); (try clear o4); (try clear o3); (try clear hO9); (try clear hsz); (try clear s₁); (try clear hcan); (try clear hcol); omega) | omega))) rfl ⟨by (first | ((try clear ex9); (try clear hop); (try clear c74_); (try clear h2); (try clear hμ3); (try clear μ3); (try clear hz9); (try clear c16_); (try clear d2); (try clear m2); (try clear m1); (try clear hlf); (try clear c5_); (try clear h1); (try clear hμ1); (try clear μ1); (try clear c9); (try clear h9); (try clear eq1); (try clear d1); (try clear c2); (try clear c1); (try clear c4); (try clear c3); (try clear o39); (try clear n4); (try clear n3); (try clear n2); (try clear n1); (try clear o4); (try clear o3); (try clear o2); (try clear o1); (try clear hO9); (try clear hsz); (try clear s₁); (try clear hcan); (try clear hq); omega) | omega), by (first | ((try clear ex9); (try clear hop); (try clear c74_); (try clear h2); (try clear hμ3); (try clear μ3); (try clear hz9); (try clear c16_); (try clear d2); (try clear m2); (try clear m1); (try clear hlf); (try clear c5_); (try clear h1); (try clear hμ1); (try clear μ1); (try clear c9); (try clear h9); (try clear eq1); (try clear d1); (try clear c2); (try clear c1); (try clear c4); (try clear c3); (try clear o39); (try clear n4); (try clear n3); (try clear n2); (try clear n1); (try clear o4); (try clear o3); (try clear o2); (try clear o1); (try clear hO9); (try clear hsz); (try clear s₁); (try clear hcan); (try clear hq); omega) | omega)⟩ (by decide) dX10_cutsFrom_114 ?_
        rw [show μ (4416 + (q + 1).toNat) (col).toNat = μ (4416 + (q.toNat + 1)) col.toNat from (by rw [eq1])]
        refine va_calli (va_runS (As := [.int (iZ (μ (4416 + ((μ 4413 (q).toNat) + 1).toNat) (col).toNat)), .int (iZ (μ (4416 + (q.toNat + 1)) col.toNat))]) (rest := []) ⟨hx, hb, hml, hown, hts⟩ (m_less l dC dI cI cZ cII cIII h0 H.size μ (μ (4416 + ((μ 4413 (q).toNat) + 1).toNat) (col).toNat) (μ (4416 + (q.toNat + 1)) col.toNat) (by constructor <;> (first | ((try clear ex9); (try clear hop); (try clear c74_); (try clear h2); (try clear hμ3); (try clear μ3); (try clear hz9); (try clear c16_); (try clear m2); (try clear m1); (try clear hlf); (try clear c5_); (try clear h1); (try clear hμ1); (try clear μ1); (try clear c9); (try clear h9); (try clear eq1); (try clear d1); (try clear c2); (try clear c1); (try clear c4); (try clear c3); (try clear o39); (try clear n4); (try clear n3); (try clear n2); (try clear n1); (try clear o4); (try clear o3); (try clear o2); (try clear o1); (try clear hO9); (try clear hsz); (try clear s₁); (try clear hcan); (try clear hcol); (try clear hq); omega) | omega)) (by constructor <;> (first | ((try clear ex9); (try clear hop); (try clear c74_); (try clear h2); (try clear hμ3); (try clear μ3); (try clear hz9); (try clear c16_); (try clear d2); (try clear m2); (try clear m1); (try clear hlf); (try clear c5_); (try clear h1); (try clear hμ1); (try clear μ1); (try clear c9); (try clear h9); (try clear eq1); (try clear c2); (try clear c1); (try clear c4); (try clear c3); (try clear o39); (try clear n4); (try clear n3); (try clear n2); (try clear n1); (try clear o4); (try clear o3); (try clear o2); (try clear o1); (try clear hO9); (try clear hsz); (try clear s₁); (try clear hcan); (try clear hcol); (try clear hq); omega) | omega))) (cwS 2 hts (gS_G k1532 k1533 k13 k1534) rfl rfl rfl (by decide +kernel) ⟨Nat.le_of_ble_eq_true rfl, Nat.le_of_ble_eq_true rfl⟩) ⟨fun a U g mk q => by obtain ⟨q0, q1, qP, qK⟩ := q; exact ⟨q0, q1, qP, va_K.moved (u := U) (U := U.calling g mk a) (Vm.Alike.refl U.vm) qK⟩, fun U hU hW => ⟨rfl, by rw [hU], by rw [hU]; exact hP, va_K.moved hW.alike hK⟩⟩ rfl rfl hl.1 rfl (lv_room (Nat.le_of_ble_eq_true rfl)) dX10_cutsFrom_115 ⟨Nat.le_of_ble_eq_true rfl, Nat.le_of_ble_eq_true rfl⟩) hS (fun q _ h => fA_le hS.1 q h) (fA_le hS.1) (fun r9 u9 t9 H1 locs ht9 hvm9 hw9 hB9 hz9 hk9 hS => ?_)
        obtain ⟨μ5, r6⟩ := u9
        obtain ⟨hP, -⟩ := hB9
        rw [ht9] at hP
        generalize H1 = H at hP hS ⊢
        obtain ⟨e9, hw9⟩ := hw9
        have e9 : r9 = iZ r6 := e9
        subst e9
        simp only at hP hw9
        have hμ5 := hw9; clear hw9
        rw [hμ5.1] at hP; have hμ5 := hμ5.2
        exact W.iret (v := iZ (r6)) hx hb hr (fun t9 ht9 hW9 => ⟨⟨iZ (r6), (μ, r6), rfl, ⟨rfl, (by
                        dsimp only
                        refine ⟨rfl, ?_⟩
                        unfold cF
                        first
                          | (rw [if_pos hlf])
                          | (rw [if_neg hlf, if_pos (by omega), if_pos hop]; exact hμ5)
                          | (rw [if_neg hlf, if_pos (by omega), if_neg hop])
                          | (rw [if_neg hlf, if_neg (by omega), if_pos hop])
                          | (rw [if_neg hlf, if_neg (by (first | ((try clear if_neg); (try clear hlf); (try clear hμ5); (try clear r6); (try clear μ5); (try clear hz9); (try clear ex9); (try clear hop); (try clear c74_); (try clear h2); (try clear hμ3); (try clear r4); (try clear μ3); (try clear d2); (try clear m2); (try clear m1); (try clear c5_); (try clear h1); (try clear hμ1); (try clear r2); (try clear μ1); (try clear c9); (try clear h9); (try clear eq1); (try clear d1); (try clear c2); (try clear c1); (try clear c4); (try clear c3); (try clear o39); (try clear n4); (try clear n3); (try clear n2); (try clear n1); (try clear o4); (try clear o3); (try clear o2); (try clear o1); (try clear hO9); (try clear hsz); (try clear s₁); (try clear hcan); (try clear hcol); (try clear hq); omega) | omega)), if_neg hop]; exact hμ5))⟩, by rw [ht9]; exact hP, va_K.moved hW9.alike hK⟩, hS.F ht9⟩) hS.2.2 dX10_cutsFrom_118
      · have hop : nod μ q.toNat = 3 := if_get h2 (by (first | ((try clear hop); (try clear h2); (try clear hμ3); (try clear r4); (try clear μ3); (try clear hz9); (try clear c16_); (try clear d2); (try clear m2); (try clear m1); (try clear hlf); (try clear c5_); (try clear h1); (try clear hμ1); (try clear r2); (try clear μ1); (try clear c9); (try clear h9); (try clear eq1); (try clear d1); (try clear c2); (try clear c1); (try clear c4); (try clear c3); (try clear o39); (try clear n4); (try clear n3); (try clear n2); (try clear n1); (try clear o4); (try clear o3); (try clear o2); (try clear o1); (try clear hO9); (try clear hsz); (try clear s₁); (try clear hcan); (try clear hcol); (try clear hq); omega) | omega))
        refine lv_aload_n hx hb dX10_cutsFrom_77 rfl (lv_at hl 0 rfl) ?_
        refine fz_get (D := (dC, dI)) (ci := 10) (v := .ref (h0 + 4415)) (C := RX10) (T := TX10) (N := 53) hx hb hts inG10 hown hK hP (k := 0) (by decide) (F := mF h0) mE_obj rfl 43 (by decide) (hts _ k1209) (fun _ h9 => h9) rfl dX10_cutsFrom_78 ?_
        refine lv_iload_n hx hb dX10_cutsFrom_81 rfl (lv_at hl 1 rfl) ?_
        refine lv_iconst (v := iZ 1) hx hb dX10_cutsFrom_82 rfl ?_
        refine lv_iadd hx hb dX10_cutsFrom_83 ?_
        refine lv_topi (fun x9 ex9 => ?_)
        obtain rfl : x9 = iZ (q + 1) := ex9.trans (iZ_add _ _)
        refine fz_ald (k := 4415) (n := 1900) (k2 := (4416 + (q + 1).toNat)) hx hb hK hP 2 rfl (by decide) mE_can rfl ⟨by (first | ((try clear ex9); (try clear hop); (try clear c74_); (try clear h2); (try clear hμ3); (try clear μ3); (try clear hz9); (try clear c16_); (try clear d2); (try clear m2); (try clear m1); (try clear hlf); (try clear c5_); (try clear h1); (try clear hμ1); (try clear μ1); (try clear c9); (try clear h9); (try clear eq1); (try clear d1); (try clear c2); (try clear c1); (try clear c4); (try clear c3); (try clear o39); (try clear n4); (try clear n3); (try clear n2); (try clear n1); (try clear o4); (try clear o3); (try clear o2); (try clear o1); (try clear hO9); (try clear hsz); (try clear s₁); (try clear hcan); (try clear hcol); omega) | omega), by (first | ((try clear ex9); (try clear hop); (try clear c74_); (try clear h2); (try clear hμ3); (try clear μ3); (try clear hz9); (try clear c16_); (try clear d2); (try clear m2); (try clear m1); (try clear hlf); (try clear c5_); (try clear h1); (try clear hμ1); (try clear μ1); (try clear c9); (try clear h9); (try clear eq1); (try clear d1); (try clear c2); (try clear c1); (try clear c4); (try clear c3); (try clear o39); (try clear n4); (try clear n3); (try clear n2); (try clear n1); (try clear o4); (try clear o3); (try clear hO9); (try clear hsz); (try clear s₁); (try clear hcan); (try clear hcol); omega) | omega)⟩ (by decide) (if_pos (by (first | ((try clear ex9); (try clear h2); (try clear hμ3); (try clear hz9); (try clear d2); (try clear m2); (try clear m1); (try clear hlf); (try clear c5_); (try clear h1); (try clear hμ1); (try clear μ1); (try clear c9); (try clear d1); (try clear c2); (try clear c1); (try clear c4); (try clear c3); (try clear o39); (try clear n4); (try clear n3); (try clear n2); (try clear n1); (try clear o4); (try clear o3); (try clear hO9); (try clear hsz); (try clear s₁); (try clear hcan); (try clear hcol); omega) | omega))) dX10_cutsFrom_84 ?_
        refine lv_iload_n hx hb dX10_cutsFrom_85 rfl (lv_at hl 2 rfl) ?_
        refine fz_ld (k := (4416 + (q + 1).toNat)) (n := 62) hx hb hK hP 0 (by (first | ((try clear ex9); (try clear h2); (try clear hμ3); (try clear hz9); (try clear d2); (try clear m2); (try clear m1); (try clear hlf); (try clear c5_); (try clear h1); (try clear hμ1); (try clear μ1); (try clear c9); (try clear d1); (try clear c2); (try clear c1); (try clear c4); (try clear c3); (try clear o39); (try clear n4); (try clear n3); (try clear n2); (try clear n1); (try clear o4); (try clear o3); (try clear hO9); (try clear hsz); (try clear s₁); (try clear hcan); (try clear hcol); omega) | omega)) (mE_canR (by (first | ((try clear ex9); (try clear h2); (try clear hμ3); (try clear hz9); (try clear d2); (try clear m2); (try clear m1); (try clear hlf); (try clear c5_); (try clear h1); (try clear hμ1); (try clear μ1); (try clear c9); (try clear d1); (try clear c2); (try clear c1); (try clear c4); (try clear c3); (try clear o39); (try clear n4); (try clear n3); (try clear n2); (try clear n1); (try clear o4); (try clear o3); (try clear hO9); (try clear hsz); (try clear s₁); (try clear hcan); (try clear hcol); omega) | omega))) rfl ⟨by (first | ((try clear ex9); (try clear hop); (try clear c74_); (try clear h2); (try clear hμ3); (try clear μ3); (try clear hz9); (try clear c16_); (try clear d2); (try clear m2); (try clear m1); (try clear hlf); (try clear c5_); (try clear h1); (try clear hμ1); (try clear μ1); (try clear c9); (try clear h9); (try clear eq1); (try clear d1); (try clear c2); (try clear c1); (try clear c4); (try clear c3); (try clear o39); (try clear n4); (try clear n3); (try clear n2); (try clear n1); (try clear o4); (try clear o3); (try clear o2); (try clear o1); (try clear hO9); (try clear hsz); (try clear s₁); (try clear hcan); (try clear hq); omega) | omega), by (first | ((try clear ex9); (try clear hop); (try clear c74_); (try clear h2); (try clear hμ3); (try clear μ3); (try clear hz9); (try clear c16_); (try clear d2); (try clear m2); (try clear m1); (try clear hlf); (try clear c5_); (try clear h1); (try clear hμ1); (try clear μ1); (try clear c9); (try clear h9); (try clear eq1); (try clear d1); (try clear c2); (try clear c1); (try clear c4); (try clear c3); (try clear o39); (try clear n4); (try clear n3); (try clear n2); (try clear n1); (try clear o4); (try clear o3); (try clear o2); (try clear o1); (try clear hO9); (try clear hsz); (try clear s₁); (try clear hcan); (try clear hq); omega) | omega)⟩ (by decide) dX10_cutsFrom_86 ?_
        rw [show μ (4416 + (q + 1).toNat) (col).toNat = μ (4416 + (q.toNat + 1)) col.toNat from (by rw [eq1])]
        refine lv_goto (tgt := 118) hx hb dX10_cutsFrom_87 (by decide) ?_
        exact W.iret (v := iZ (μ (4416 + (q.toNat + 1)) col.toNat)) hx hb hr (fun t9 ht9 hW9 => ⟨⟨iZ (μ (4416 + (q.toNat + 1)) col.toNat), (μ, μ (4416 + (q.toNat + 1)) col.toNat), rfl, ⟨rfl, (by
                        dsimp only
                        refine ⟨rfl, ?_⟩
                        unfold cF
                        first
                          | (rw [if_pos hlf])
                          | (rw [if_neg hlf, if_pos (by omega), if_pos hop]; exact hμ3)
                          | (rw [if_neg hlf, if_pos (by omega), if_neg hop])
                          | (rw [if_neg hlf, if_neg (by (first | ((try clear if_neg); (try clear hlf); (try clear ex9); (try clear hop); (try clear c74_); (try clear h2); (try clear hμ3); (try clear r4); (try clear μ3); (try clear hz9); (try clear d2); (try clear m2); (try clear m1); (try clear c5_); (try clear h1); (try clear hμ1); (try clear r2); (try clear μ1); (try clear c9); (try clear h9); (try clear eq1); (try clear d1); (try clear c2); (try clear c1); (try clear c4); (try clear c3); (try clear o39); (try clear n4); (try clear n3); (try clear n2); (try clear n1); (try clear o4); (try clear o3); (try clear o2); (try clear o1); (try clear hO9); (try clear hsz); (try clear s₁); (try clear hcan); (try clear hcol); (try clear hq); omega) | omega)), if_pos hop])
                          | (rw [if_neg hlf, if_neg (by omega), if_neg hop]; exact hμ3))⟩, by rw [ht9]; exact hP, va_K.moved hW9.alike hK⟩, hS.F ht9⟩) hS.2.2 dX10_cutsFrom_118
    · refine lv_aload_n hx hb dX10_cutsFrom_19 rfl (lv_at hl 0 rfl) ?_
      refine lv_iload_n hx hb dX10_cutsFrom_20 rfl (lv_at hl 1 rfl) ?_
      refine va_calli (va_runV (As := [.int (iZ (q))]) (rest := []) ⟨hx, hb, hml, hown, hts⟩ (m_isOption l dC dI cI cZ cII cIII h0 H.size μ (q) (by first | assumption | omega | exact ⟨by omega, by omega⟩) (by first | assumption | omega | exact ⟨by omega, by omega⟩)) (cwV 1 hts (gV_G k1524 k1526 ks_yX10_isOption k13 k1527) rfl rfl rfl (by decide +kernel) ⟨Nat.le_of_ble_eq_true rfl, Nat.le_of_ble_eq_true rfl⟩) ⟨fun a U g mk q => by obtain ⟨q0, q1, qP, qK⟩ := q; exact ⟨q0, q1, qP, va_K.moved (u := U) (U := U.calling g mk a) (Vm.Alike.refl U.vm) qK⟩, va_recv hK hP (ci := 10) (q0 := 0) rfl ((fw_get (by decide)).trans (by rw [mE_obj]; rfl)), fun U hU hW => ⟨rfl, by rw [hU], by rw [hU]; exact hP, va_K.moved hW.alike hK⟩⟩ rfl rfl hl.1 rfl (lv_room (Nat.le_of_ble_eq_true rfl)) dX10_cutsFrom_21 ⟨Nat.le_of_ble_eq_true rfl, Nat.le_of_ble_eq_true rfl⟩) hS (fun q _ h => fA_le hS.1 q h) (fA_le hS.1) (fun r9 u9 t9 H1 locs ht9 hvm9 hw9 hB9 hz9 hk9 hS => ?_)
      obtain ⟨μ7, r8⟩ := u9
      obtain ⟨hP, -⟩ := hB9
      rw [ht9] at hP
      generalize H1 = H at hP hS ⊢
      obtain ⟨e9, hw9⟩ := hw9
      have e9 : r9 = iZ r8 := e9
      subst e9
      simp only at hP hw9
      have hμ7 := hw9; clear hw9
      rw [hμ7.1] at hP; have hμ7 := hμ7.2
      have h2 := hμ7
      refine fz_if_eq (tgt := 58) (by constructor <;> (first | ((try clear h2); (try clear hμ7); (try clear hz9); (try clear c16_); (try clear d2); (try clear m2); (try clear m1); (try clear hlf); (try clear c5_); (try clear h1); (try clear hμ1); (try clear μ1); (try clear c9); (try clear h9); (try clear eq1); (try clear d1); (try clear c2); (try clear c1); (try clear c4); (try clear c3); (try clear o39); (try clear n4); (try clear n3); (try clear n2); (try clear n1); (try clear o4); (try clear o3); (try clear o2); (try clear o1); (try clear hO9); (try clear hsz); (try clear s₁); (try clear hcan); (try clear hcol); (try clear hq); omega) | omega)) hx hb dX10_cutsFrom_24 (by decide) (fun c24_ => ?_) (fun c24_ => ?_)
      · have hop : ¬ nod μ q.toNat = 3 := if_not h2 (by (first | ((try clear hop); (try clear h2); (try clear hμ7); (try clear r8); (try clear μ7); (try clear hz9); (try clear c16_); (try clear d2); (try clear m2); (try clear m1); (try clear hlf); (try clear c5_); (try clear h1); (try clear hμ1); (try clear r2); (try clear μ1); (try clear c9); (try clear h9); (try clear eq1); (try clear d1); (try clear c2); (try clear c1); (try clear c4); (try clear c3); (try clear o39); (try clear n4); (try clear n3); (try clear n2); (try clear n1); (try clear o4); (try clear o3); (try clear o2); (try clear o1); (try clear hO9); (try clear hsz); (try clear s₁); (try clear hcan); (try clear hcol); (try clear hq); omega) | omega))
        refine lv_aload_n hx hb dX10_cutsFrom_58 rfl (lv_at hl 0 rfl) ?_
        refine fz_get (D := (dC, dI)) (ci := 10) (v := .ref (h0 + 4415)) (C := RX10) (T := TX10) (N := 53) hx hb hts inG10 hown hK hP (k := 0) (by decide) (F := mF h0) mE_obj rfl 43 (by decide) (hts _ k1209) (fun _ h9 => h9) rfl dX10_cutsFrom_59 ?_
        refine lv_iload_n hx hb dX10_cutsFrom_62 rfl (lv_at hl 1 rfl) ?_
        refine lv_iconst (v := iZ 1) hx hb dX10_cutsFrom_63 rfl ?_
        refine lv_iadd hx hb dX10_cutsFrom_64 ?_
        refine lv_topi (fun x9 ex9 => ?_)
        obtain rfl : x9 = iZ (q + 1) := ex9.trans (iZ_add _ _)
        refine fz_ald (k := 4415) (n := 1900) (k2 := (4416 + (q + 1).toNat)) hx hb hK hP 2 rfl (by decide) mE_can rfl ⟨by (first | ((try clear ex9); (try clear hop); (try clear c24_); (try clear h2); (try clear hμ7); (try clear μ7); (try clear hz9); (try clear c16_); (try clear d2); (try clear m2); (try clear m1); (try clear hlf); (try clear c5_); (try clear h1); (try clear hμ1); (try clear μ1); (try clear c9); (try clear h9); (try clear eq1); (try clear d1); (try clear c2); (try clear c1); (try clear c4); (try clear c3); (try clear o39); (try clear n4); (try clear n3); (try clear n2); (try clear n1); (try clear o4); (try clear o3); (try clear o2); (try clear o1); (try clear hO9); (try clear hsz); (try clear s₁); (try clear hcan); (try clear hcol); omega) | omega), by (first | ((try clear ex9); (try clear hop); (try clear c24_); (try clear h2); (try clear hμ7); (try clear μ7); (try clear hz9); (try clear c16_); (try clear d2); (try clear m2); (try clear m1); (try clear hlf); (try clear c5_); (try clear h1); (try clear hμ1); (try clear μ1); (try clear c9); (try clear h9); (try clear eq1); (try clear d1); (try clear c2); (try clear c1); (try clear c4); (try clear c3); (try clear o39); (try clear n4); (try clear n3); (try clear n2); (try clear n1); (try clear o4); (try clear o3); (try clear hO9); (try clear hsz); (try clear s₁); (try clear hcan); (try clear hcol); omega) | omega)⟩ (by decide) (if_pos (by (first | ((try clear ex9); (try clear c24_); (try clear h2); (try clear hμ7); (try clear μ7); (try clear hz9); (try clear c16_); (try clear d2); (try clear m2); (try clear m1); (try clear c5_); (try clear h1); (try clear hμ1); (try clear μ1); (try clear d1); (try clear c2); (try clear c1); (try clear c4); (try clear c3); (try clear o39); (try clear n4); (try clear n3); (try clear n2); (try clear n1); (try clear o4); (try clear o3); (try clear hO9); (try clear hsz); (try clear s₁); (try clear hcan); (try clear hcol); omega) | omega))) dX10_cutsFrom_65 ?_
        refine lv_iload_n hx hb dX10_cutsFrom_66 rfl (lv_at hl 2 rfl) ?_
        refine fz_ld (k := (4416 + (q + 1).toNat)) (n := 62) hx hb hK hP 0 (by (first | ((try clear ex9); (try clear c24_); (try clear h2); (try clear hμ7); (try clear μ7); (try clear hz9); (try clear c16_); (try clear d2); (try clear m2); (try clear m1); (try clear c5_); (try clear h1); (try clear hμ1); (try clear μ1); (try clear d1); (try clear c2); (try clear c1); (try clear c4); (try clear c3); (try clear o39); (try clear n4); (try clear n3); (try clear n2); (try clear n1); (try clear o4); (try clear o3); (try clear hO9); (try clear hsz); (try clear s₁); (try clear hcan); (try clear hcol); omega) | omega)) (mE_canR (by (first | ((try clear ex9); (try clear c24_); (try clear h2); (try clear hμ7); (try clear μ7); (try clear hz9); (try clear c16_); (try clear d2); (try clear m2); (try clear m1); (try clear c5_); (try clear h1); (try clear hμ1); (try clear μ1); (try clear d1); (try clear c2); (try clear c1); (try clear c4); (try clear c3); (try clear o39); (try clear n4); (try clear n3); (try clear n2); (try clear n1); (try clear o4); (try clear o3); (try clear hO9); (try clear hsz); (try clear s₁); (try clear hcan); (try clear hcol); omega) | omega))) rfl ⟨by (first | ((try clear ex9); (try clear hop); (try clear c24_); (try clear h2); (try clear hμ7); (try clear μ7); (try clear hz9); (try clear c16_); (try clear d2); (try clear m2); (try clear m1); (try clear hlf); (try clear c5_); (try clear h1); (try clear hμ1); (try clear μ1); (try clear c9); (try clear h9); (try clear eq1); (try clear d1); (try clear c2); (try clear c1); (try clear c4); (try clear c3); (try clear o39); (try clear n4); (try clear n3); (try clear n2); (try clear n1); (try clear o4); (try clear o3); (try clear o2); (try clear o1); (try clear hO9); (try clear hsz); (try clear s₁); (try clear hcan); (try clear hq); omega) | omega), by (first | ((try clear ex9); (try clear hop); (try clear c24_); (try clear h2); (try clear hμ7); (try clear μ7); (try clear hz9); (try clear c16_); (try clear d2); (try clear m2); (try clear m1); (try clear hlf); (try clear c5_); (try clear h1); (try clear hμ1); (try clear μ1); (try clear c9); (try clear h9); (try clear eq1); (try clear d1); (try clear c2); (try clear c1); (try clear c4); (try clear c3); (try clear o39); (try clear n4); (try clear n3); (try clear n2); (try clear n1); (try clear o4); (try clear o3); (try clear o2); (try clear o1); (try clear hO9); (try clear hsz); (try clear s₁); (try clear hcan); (try clear hq); omega) | omega)⟩ (by decide) dX10_cutsFrom_67 ?_
        rw [show μ (4416 + (q + 1).toNat) (col).toNat = μ (4416 + (q.toNat + 1)) col.toNat from (by rw [eq1])]
        exact W.iret (v := iZ (μ (4416 + (q.toNat + 1)) col.toNat)) hx hb hr (fun t9 ht9 hW9 => ⟨⟨iZ (μ (4416 + (q.toNat + 1)) col.toNat), (μ, μ (4416 + (q.toNat + 1)) col.toNat), rfl, ⟨rfl, (by
                        dsimp only
                        refine ⟨rfl, ?_⟩
                        unfold cF
                        first
                          | (rw [if_pos hlf])
                          | (rw [if_neg hlf, if_pos (by omega), if_pos hop]; exact hμ7)
                          | (rw [if_neg hlf, if_pos (by (first | ((try clear if_pos); (try clear hlf); (try clear if_neg); (try clear ex9); (try clear hop); (try clear c24_); (try clear h2); (try clear hμ7); (try clear r8); (try clear μ7); (try clear hz9); (try clear d2); (try clear m2); (try clear m1); (try clear c5_); (try clear h1); (try clear hμ1); (try clear r2); (try clear μ1); (try clear c9); (try clear h9); (try clear eq1); (try clear d1); (try clear c2); (try clear c1); (try clear c4); (try clear c3); (try clear o39); (try clear n4); (try clear n3); (try clear n2); (try clear n1); (try clear o4); (try clear o3); (try clear o2); (try clear o1); (try clear hO9); (try clear hsz); (try clear s₁); (try clear hcan); (try clear hcol); (try clear hq); omega) | omega)), if_neg hop])
                          | (rw [if_neg hlf, if_neg (by omega), if_pos hop])
                          | (rw [if_neg hlf, if_neg (by omega), if_neg hop]; exact hμ7))⟩, by rw [ht9]; exact hP, va_K.moved hW9.alike hK⟩, hS.F ht9⟩) hS.2.2 dX10_cutsFrom_68
      · have hop : nod μ q.toNat = 3 := if_get h2 (by (first | ((try clear hop); (try clear h2); (try clear hμ7); (try clear r8); (try clear μ7); (try clear hz9); (try clear c16_); (try clear d2); (try clear m2); (try clear m1); (try clear hlf); (try clear c5_); (try clear h1); (try clear hμ1); (try clear r2); (try clear μ1); (try clear c9); (try clear h9); (try clear eq1); (try clear d1); (try clear c2); (try clear c1); (try clear c4); (try clear c3); (try clear o39); (try clear n4); (try clear n3); (try clear n2); (try clear n1); (try clear o4); (try clear o3); (try clear o2); (try clear o1); (try clear hO9); (try clear hsz); (try clear s₁); (try clear hcan); (try clear hcol); (try clear hq); omega) | omega))
        refine lv_aload_n hx hb dX10_cutsFrom_27 rfl (lv_at hl 0 rfl) ?_
        refine fz_get (D := (dC, dI)) (ci := 10) (v := .ref (h0 + 4415)) (C := RX10) (T := TX10) (N := 53) hx hb hts inG10 hown hK hP (k := 0) (by decide) (F := mF h0) mE_obj rfl 43 (by decide) (hts _ k1209) (fun _ h9 => h9) rfl dX10_cutsFrom_28 ?_
        refine lv_iload_n hx hb dX10_cutsFrom_31 rfl (lv_at hl 1 rfl) ?_
        refine lv_iconst (v := iZ 1) hx hb dX10_cutsFrom_32 rfl ?_
        refine lv_iadd hx hb dX10_cutsFrom_33 ?_
        refine lv_topi (fun x9 ex9 => ?_)
        obtain rfl : x9 = iZ (q + 1) := ex9.trans (iZ_add _ _)
        refine fz_ald (k := 4415) (n := 1900) (k2 := (4416 + (q + 1).toNat)) hx hb hK hP 2 rfl (by decide) mE_can rfl ⟨by (first | ((try clear ex9); (try clear hop); (try clear c24_); (try clear h2); (try clear hμ7); (try clear μ7); (try clear hz9); (try clear c16_); (try clear d2); (try clear m2); (try clear m1); (try clear hlf); (try clear c5_); (try clear h1); (try clear hμ1); (try clear μ1); (try clear c9); (try clear h9); (try clear eq1); (try clear d1); (try clear c2); (try clear c1); (try clear c4); (try clear c3); (try clear o39); (try clear n4); (try clear n3); (try clear n2); (try clear n1); (try clear o4); (try clear o3); (try clear o2); (try clear o1); (try clear hO9); (try clear hsz); (try clear s₁); (try clear hcan); (try clear hcol); omega) | omega), by (first | ((try clear ex9); (try clear hop); (try clear c24_); (try clear h2); (try clear hμ7); (try clear μ7); (try clear hz9); (try clear c16_); (try clear d2); (try clear m2); (try clear m1); (try clear hlf); (try clear c5_); (try clear h1); (try clear hμ1); (try clear μ1); (try clear c9); (try clear h9); (try clear eq1); (try clear d1); (try clear c2); (try clear c1); (try clear c4); (try clear c3); (try clear o39); (try clear n4); (try clear n3); (try clear n2); (try clear n1); (try clear o4); (try clear o3); (try clear hO9); (try clear hsz); (try clear s₁); (try clear hcan); (try clear hcol); omega) | omega)⟩ (by decide) (if_pos (by (first | ((try clear ex9); (try clear h2); (try clear hμ7); (try clear hz9); (try clear c16_); (try clear d2); (try clear m2); (try clear m1); (try clear hlf); (try clear c5_); (try clear h1); (try clear hμ1); (try clear μ1); (try clear c9); (try clear d1); (try clear c2); (try clear c1); (try clear c4); (try clear c3); (try clear o39); (try clear n4); (try clear n3); (try clear n2); (try clear n1); (try clear o4); (try clear o3); (try clear hO9); (try clear hsz); (try clear s₁); (try clear hcan); (try clear hcol); omega) | omega))) dX10_cutsFrom_34 ?_
        refine lv_iload_n hx hb dX10_cutsFrom_35 rfl (lv_at hl 2 rfl) ?_
        refine fz_ld (k := (4416 + (q + 1).toNat)) (n := 62) hx hb hK hP 0 (by (first | ((try clear ex9); (try clear h2); (try clear hμ7); (try clear hz9); (try clear c16_); (try clear d2); (try clear m2); (try clear m1); (try clear hlf); (try clear c5_); (try clear h1); (try clear hμ1); (try clear μ1); (try clear c9); (try clear d1); (try clear c2); (try clear c1); (try clear c4); (try clear c3); (try clear o39); (try clear n4); (try clear n3); (try clear n2); (try clear n1); (try clear o4); (try clear o3); (try clear hO9); (try clear hsz); (try clear s₁); (try clear hcan); (try clear hcol); omega) | omega)) (mE_canR (by (first | ((try clear ex9); (try clear h2); (try clear hμ7); (try clear hz9); (try clear c16_); (try clear d2); (try clear m2); (try clear m1); (try clear hlf); (try clear c5_); (try clear h1); (try clear hμ1); (try clear μ1); (try clear c9); (try clear d1); (try clear c2); (try clear c1); (try clear c4); (try clear c3); (try clear o39); (try clear n4); (try clear n3); (try clear n2); (try clear n1); (try clear o4); (try clear o3); (try clear hO9); (try clear hsz); (try clear s₁); (try clear hcan); (try clear hcol); omega) | omega))) rfl ⟨by (first | ((try clear ex9); (try clear hop); (try clear c24_); (try clear h2); (try clear hμ7); (try clear μ7); (try clear hz9); (try clear c16_); (try clear d2); (try clear m2); (try clear m1); (try clear hlf); (try clear c5_); (try clear h1); (try clear hμ1); (try clear μ1); (try clear c9); (try clear h9); (try clear eq1); (try clear d1); (try clear c2); (try clear c1); (try clear c4); (try clear c3); (try clear o39); (try clear n4); (try clear n3); (try clear n2); (try clear n1); (try clear o4); (try clear o3); (try clear o2); (try clear o1); (try clear hO9); (try clear hsz); (try clear s₁); (try clear hcan); (try clear hq); omega) | omega), by (first | ((try clear ex9); (try clear hop); (try clear c24_); (try clear h2); (try clear hμ7); (try clear μ7); (try clear hz9); (try clear c16_); (try clear d2); (try clear m2); (try clear m1); (try clear hlf); (try clear c5_); (try clear h1); (try clear hμ1); (try clear μ1); (try clear c9); (try clear h9); (try clear eq1); (try clear d1); (try clear c2); (try clear c1); (try clear c4); (try clear c3); (try clear o39); (try clear n4); (try clear n3); (try clear n2); (try clear n1); (try clear o4); (try clear o3); (try clear o2); (try clear o1); (try clear hO9); (try clear hsz); (try clear s₁); (try clear hcan); (try clear hq); omega) | omega)⟩ (by decide) dX10_cutsFrom_36 ?_
        rw [show μ (4416 + (q + 1).toNat) (col).toNat = μ (4416 + (q.toNat + 1)) col.toNat from (by rw [eq1])]
        refine lv_aload_n hx hb dX10_cutsFrom_37 rfl (lv_at hl 0 rfl) ?_
        refine fz_get (D := (dC, dI)) (ci := 10) (v := .ref (h0 + 4415)) (C := RX10) (T := TX10) (N := 53) hx hb hts inG10 hown hK hP (k := 0) (by decide) (F := mF h0) mE_obj rfl 43 (by decide) (hts _ k1209) (fun _ h9 => h9) rfl dX10_cutsFrom_38 ?_
        refine lv_aload_n hx hb dX10_cutsFrom_41 rfl (lv_at hl 0 rfl) ?_
        refine fz_get (D := (dC, dI)) (ci := 10) (v := .ref (h0 + 4413)) (C := RX10) (T := TX10) (N := 53) hx hb hts inG10 hown hK hP (k := 0) (by decide) (F := mF h0) mE_obj rfl 41 (by decide) (hts _ k1207) (fun _ h9 => h9) rfl dX10_cutsFrom_42 ?_
        refine lv_iload_n hx hb dX10_cutsFrom_45 rfl (lv_at hl 1 rfl) ?_
        refine fz_ld (k := 4413) (n := 1900) hx hb hK hP 0 (by decide) mE_other rfl ⟨by (first | ((try clear ex9); (try clear hop); (try clear c24_); (try clear h2); (try clear hμ7); (try clear μ7); (try clear hz9); (try clear c16_); (try clear d2); (try clear m2); (try clear m1); (try clear hlf); (try clear c5_); (try clear h1); (try clear hμ1); (try clear μ1); (try clear c9); (try clear h9); (try clear eq1); (try clear d1); (try clear c2); (try clear c1); (try clear c4); (try clear c3); (try clear o39); (try clear n4); (try clear n3); (try clear n2); (try clear n1); (try clear o4); (try clear o3); (try clear o2); (try clear o1); (try clear hO9); (try clear hsz); (try clear s₁); (try clear hcan); (try clear hcol); omega) | omega), by (first | ((try clear ex9); (try clear hop); (try clear c24_); (try clear h2); (try clear hμ7); (try clear μ7); (try clear hz9); (try clear c16_); (try clear d2); (try clear m2); (try clear m1); (try clear hlf); (try clear c5_); (try clear h1); (try clear hμ1); (try clear μ1); (try clear c9); (try clear h9); (try clear eq1); (try clear d1); (try clear c2); (try clear c1); (try clear c4); (try clear c3); (try clear o39); (try clear n4); (try clear n3); (try clear n2); (try clear n1); (try clear o4); (try clear o3); (try clear hO9); (try clear hsz); (try clear s₁); (try clear hcan); (try clear hcol); omega) | omega)⟩ (by decide) dX10_cutsFrom_46 ?_
        refine lv_iconst (v := iZ 1) hx hb dX10_cutsFrom_47 rfl ?_
        refine lv_iadd hx hb dX10_cutsFrom_48 ?_
        refine lv_topi (fun x9 ex9 => ?_)
        obtain rfl : x9 = iZ ((μ 4413 (q).toNat) + 1) := ex9.trans (iZ_add _ _)
        refine fz_ald (k := 4415) (n := 1900) (k2 := (4416 + ((μ 4413 (q).toNat) + 1).toNat)) hx hb hK hP 2 rfl (by decide) mE_can rfl ⟨by (first | ((try clear ex9); (try clear hop); (try clear c24_); (try clear h2); (try clear hμ7); (try clear μ7); (try clear hz9); (try clear c16_); (try clear d2); (try clear m2); (try clear hlf); (try clear c5_); (try clear h1); (try clear hμ1); (try clear μ1); (try clear c9); (try clear h9); (try clear eq1); (try clear d1); (try clear c2); (try clear c1); (try clear c4); (try clear c3); (try clear o39); (try clear n4); (try clear n3); (try clear n2); (try clear n1); (try clear o4); (try clear o3); (try clear o2); (try clear o1); (try clear hO9); (try clear hsz); (try clear s₁); (try clear hcan); (try clear hcol); (try clear hq); omega) | omega), by (first | ((try clear ex9); (try clear hop); (try clear c24_); (try clear h2); (try clear hμ7); (try clear μ7); (try clear hz9); (try clear c16_); (try clear d2); (try clear m1); (try clear hlf); (try clear c5_); (try clear h1); (try clear hμ1); (try clear μ1); (try clear c9); (try clear h9); (try clear eq1); (try clear d1); (try clear c2); (try clear c1); (try clear c4); (try clear c3); (try clear o39); (try clear n4); (try clear n3); (try clear n2); (try clear n1); (try clear o4); (try clear o3); (try clear hO9); (try clear hsz); (try clear s₁); (try clear hcan); (try clear hcol); omega) | omega)⟩ (by decide) (if_pos (by (first | ((try clear ex9); (try clear hop); (try clear c24_); (try clear h2); (try clear hμ7); (try clear μ7); (try clear hz9); (try clear c16_); (try clear d2); (try clear hlf); (try clear c5_); (try clear h1); (try clear hμ1); (try clear μ1); (try clear c9); (try clear h9); (try clear eq1); (try clear d1); (try clear c2); (try clear c1); (try clear c4); (try clear c3); (try clear o39); (try clear n4); (try clear n3); (try clear n2); (try clear n1); (try clear o4); (try clear o3); (try clear hO9); (try clear hsz); (try clear s₁); (try clear hcan); (try clear hcol); omega) | omega))) dX10_cutsFrom_49 ?_
        refine lv_iload_n hx hb dX10_cutsFrom_50 rfl (lv_at hl 2 rfl) ?_
        refine fz_ld (k := (4416 + ((μ 4413 (q).toNat) + 1).toNat)) (n := 62) hx hb hK hP 0 (by (first | ((try clear ex9); (try clear hop); (try clear c24_); (try clear h2); (try clear hμ7); (try clear μ7); (try clear hz9); (try clear c16_); (try clear d2); (try clear hlf); (try clear c5_); (try clear h1); (try clear hμ1); (try clear μ1); (try clear c9); (try clear h9); (try clear eq1); (try clear d1); (try clear c2); (try clear c1); (try clear c4); (try clear c3); (try clear o39); (try clear n4); (try clear n3); (try clear n2); (try clear n1); (try clear o4); (try clear o3); (try clear hO9); (try clear hsz); (try clear s₁); (try clear hcan); (try clear hcol); omega) | omega)) (mE_canR (by (first | ((try clear ex9); (try clear hop); (try clear c24_); (try clear h2); (try clear hμ7); (try clear μ7); (try clear hz9); (try clear c16_); (try clear d2); (try clear hlf); (try clear c5_); (try clear h1); (try clear hμ1); (try clear μ1); (try clear c9); (try clear h9); (try clear eq1); (try clear d1); (try clear c2); (try clear c1); (try clear c4); (try clear c3); (try clear o39); (try clear n4); (try clear n3); (try clear n2); (try clear n1); (try clear o4); (try clear o3); (try clear hO9); (try clear hsz); (try clear s₁); (try clear hcan); (try clear hcol); omega) | omega))) rfl ⟨by (first | ((try clear ex9); (try clear hop); (try clear c24_); (try clear h2); (try clear hμ7); (try clear μ7); (try clear hz9); (try clear c16_); (try clear d2); (try clear m2); (try clear m1); (try clear hlf); (try clear c5_); (try clear h1); (try clear hμ1); (try clear μ1); (try clear c9); (try clear h9); (try clear eq1); (try clear d1); (try clear c2); (try clear c1); (try clear c4); (try clear c3); (try clear o39); (try clear n4); (try clear n3); (try clear n2); (try clear n1); (try clear o4); (try clear o3); (try clear o2); (try clear o1); (try clear hO9); (try clear hsz); (try clear s₁); (try clear hcan); (try clear hq); omega) | omega), by (first | ((try clear ex9); (try clear hop); (try clear c24_); (try clear h2); (try clear hμ7); (try clear μ7); (try clear hz9); (try clear c16_); (try clear d2); (try clear m2); (try clear m1); (try clear hlf); (try clear c5_); (try clear h1); (try clear hμ1); (try clear μ1); (try clear c9); (try clear h9); (try clear eq1); (try clear d1); (try clear c2); (try clear c1); (try clear c4); (try clear c3); (try clear o39); (try clear n4); (try clear n3); (try clear n2); (try clear n1); (try clear o4); (try clear o3); (try clear o2); (try clear o1); (try clear hO9); (try clear hsz); (try clear s₁); (try clear hcan); (try clear hq); omega) | omega)⟩ (by decide) dX10_cutsFrom_51 ?_
        refine va_calli (va_runS (As := [.int (iZ (μ (4416 + (q.toNat + 1)) col.toNat)), .int (iZ (μ (4416 + ((μ 4413 (q).toNat) + 1).toNat) (col).toNat))]) (rest := []) ⟨hx, hb, hml, hown, hts⟩ (m_less l dC dI cI cZ cII cIII h0 H.size μ (μ (4416 + (q.toNat + 1)) col.toNat) (μ (4416 + ((μ 4413 (q).toNat) + 1).toNat) (col).toNat) (by constructor <;> (first | ((try clear ex9); (try clear hop); (try clear c24_); (try clear h2); (try clear hμ7); (try clear μ7); (try clear hz9); (try clear c16_); (try clear d2); (try clear m2); (try clear m1); (try clear hlf); (try clear c5_); (try clear h1); (try clear hμ1); (try clear μ1); (try clear c9); (try clear h9); (try clear eq1); (try clear c2); (try clear c1); (try clear c4); (try clear c3); (try clear o39); (try clear n4); (try clear n3); (try clear n2); (try clear n1); (try clear o4); (try clear o3); (try clear o2); (try clear o1); (try clear hO9); (try clear hsz); (try clear s₁); (try clear hcan); (try clear hcol); (try clear hq); omega) | omega)) (by constructor <;> (first | ((try clear ex9); (try clear hop); (try clear c24_); (try clear h2); (try clear hμ7); (try clear μ7); (try clear hz9); (try clear c16_); (try clear m2); (try clear m1); (try clear hlf); (try clear c5_); (try clear h1); (try clear hμ1); (try clear μ1); (try clear c9); (try clear h9); (try clear eq1); (try clear d1); (try clear c2); (try clear c1); (try clear c4); (try clear c3); (try clear o39); (try clear n4); (try clear n3); (try clear n2); (try clear n1); (try clear o4); (try clear o3); (try clear o2); (try clear o1); (try clear hO9); (try clear hsz); (try clear s₁); (try clear hcan); (try clear hcol); (try clear hq); omega) | omega))) (cwS 2 hts (gS_G k1532 k1533 k13 k1534) rfl rfl rfl (by decide +kernel) ⟨Nat.le_of_ble_eq_true rfl, Nat.le_of_ble_eq_true rfl⟩) ⟨fun a U g mk q => by obtain ⟨q0, q1, qP, qK⟩ := q; exact ⟨q0, q1, qP, va_K.moved (u := U) (U := U.calling g mk a) (Vm.Alike.refl U.vm) qK⟩, fun U hU hW => ⟨rfl, by rw [hU], by rw [hU]; exact hP, va_K.moved hW.alike hK⟩⟩ rfl rfl hl.1 rfl (lv_room (Nat.le_of_ble_eq_true rfl)) dX10_cutsFrom_52 ⟨Nat.le_of_ble_eq_true rfl, Nat.le_of_ble_eq_true rfl⟩) hS (fun q _ h => fA_le hS.1 q h) (fA_le hS.1) (fun r9 u9 t9 H1 locs ht9 hvm9 hw9 hB9 hz9 hk9 hS => ?_)
        obtain ⟨μ10, r11⟩ := u9
        obtain ⟨hP, -⟩ := hB9
        rw [ht9] at hP
        generalize H1 = H at hP hS ⊢
        obtain ⟨e9, hw9⟩ := hw9
        have e9 : r9 = iZ r11 := e9
        subst e9
        simp only at hP hw9
        have hμ10 := hw9; clear hw9
        rw [hμ10.1] at hP; have hμ10 := hμ10.2
        refine lv_goto (tgt := 68) hx hb dX10_cutsFrom_55 (by decide) ?_
        exact W.iret (v := iZ (r11)) hx hb hr (fun t9 ht9 hW9 => ⟨⟨iZ (r11), (μ, r11), rfl, ⟨rfl, (by
                        dsimp only
                        refine ⟨rfl, ?_⟩
                        unfold cF
                        first
                          | (rw [if_pos hlf])
                          | (rw [if_neg hlf, if_pos (by (first | ((try clear if_pos); (try clear hlf); (try clear if_neg); (try clear hμ10); (try clear r11); (try clear μ10); (try clear hz9); (try clear ex9); (try clear hop); (try clear c24_); (try clear h2); (try clear hμ7); (try clear r8); (try clear μ7); (try clear d2); (try clear m2); (try clear m1); (try clear c5_); (try clear h1); (try clear hμ1); (try clear r2); (try clear μ1); (try clear c9); (try clear h9); (try clear eq1); (try clear d1); (try clear c2); (try clear c1); (try clear c4); (try clear c3); (try clear o39); (try clear n4); (try clear n3); (try clear n2); (try clear n1); (try clear o4); (try clear o3); (try clear o2); (try clear o1); (try clear hO9); (try clear hsz); (try clear s₁); (try clear hcan); (try clear hcol); (try clear hq); omega) | omega)), if_pos hop]; exact hμ10)
                          | (rw [if_neg hlf, if_pos (by omega), if_neg hop])
                          | (rw [if_neg hlf, if_neg (by omega), if_pos hop])
                          | (rw [if_neg hlf, if_neg (by omega), if_neg hop]; exact hμ10))⟩, by rw [ht9]; exact hP, va_K.moved hW9.alike hK⟩, hS.F ht9⟩) hS.2.2 dX10_cutsFrom_68
  · have hlf : nod μ q.toNat < 3 := if_get h1 (by (first | ((try clear hlf); (try clear h1); (try clear hμ1); (try clear r2); (try clear μ1); (try clear hz9); (try clear c9); (try clear h9); (try clear eq1); (try clear d1); (try clear c2); (try clear c1); (try clear c4); (try clear c3); (try clear o39); (try clear n4); (try clear n3); (try clear n2); (try clear n1); (try clear o4); (try clear o3); (try clear o2); (try clear o1); (try clear hO9); (try clear hsz); (try clear s₁); (try clear hcan); (try clear hcol); (try clear hq); omega) | omega))
    refine lv_iload_n hx hb dX10_cutsFrom_8 rfl (lv_at hl 3 rfl) ?_
    exact W.iret (v := iZ (tk)) hx hb hr (fun t9 ht9 hW9 => ⟨⟨iZ (tk), (μ, tk), rfl, ⟨rfl, (by
                dsimp only
                refine ⟨rfl, ?_⟩
                unfold cF
                first
                  | (rw [if_pos hlf])
                  | (rw [if_neg hlf, if_pos (by omega), if_pos hop]; exact hμ1)
                  | (rw [if_neg hlf, if_pos (by omega), if_neg hop])
                  | (rw [if_neg hlf, if_neg (by omega), if_pos hop])
                  | (rw [if_neg hlf, if_neg (by omega), if_neg hop]; exact hμ1))⟩, by rw [ht9]; exact hP, va_K.moved hW9.alike hK⟩, hS.F ht9⟩) hS.2.2 dX10_cutsFrom_9
set_option maxHeartbeats 4000000 in
set_option maxRecDepth 100000 in
theorem m_turnsOn (l : Launch) (dC : Nat → ClassId) (dI : Nat → Nat → Nat) (cI cZ cII cIII : ClassId) (h0 sz : Nat) (μ : va_M) (q : Int) (hq : 0 ≤ q ∧ q < 1900) (hb2 : μ 6317 q.toNat = 0 ∨ μ 6317 q.toNat = 1) : Met l yX10_turnsOn (Cond.code yX10_turnsOn cX10_turnsOn 3 (some .boolean) :: wsG) ({ frames := 1, cells := 0, slots := 0, locals := 14 } : Room) (va_Pc [.ref h0, .int (iZ (q))] (fun U => U.heap.size = sz ∧ va_P (dC, dI) vwCl (fw (mE cI cZ cII cIII h0) h0 6325 μ) U.heap ∧ va_K (dC, dI) vwCl (mT cI cZ cII cIII) U)) (va_Qi (fun (r9 : Int32) (u : va_M × Int) => r9 = iZ u.2 ∧ (fun (u : va_M) (r : Int) => u = uz μ 6317 q.toNat 1 ∧ r = if μ 6317 q.toNat = 0 then 1 else 0) u.1 u.2) (fun u t => va_P (dC, dI) vwCl (fw (mE cI cZ cII cIII h0) h0 6325 u.1) t.heap ∧ va_K (dC, dI) vwCl (mT cI cZ cII cIII) t) (fA h0 6325 sz)) 0 0 (fA h0 6325 sz) := by
  refine Met.ofW (cc := cX10_turnsOn) (maxL := 3) (ret := (some .boolean)) (by decide) rfl ?_
  intro p e s m args below meth c s₁ B hml hv
  obtain ⟨rfl, hsz, hP, hK⟩ := hv
  have hx := B.exec
  have hb := B.bytes
  have hr := B.returns
  have hts : ∀ w ∈ wsG, w.before _ s = true := hG_of (atoms_spec (ws := (Cond.code yX10_turnsOn cX10_turnsOn 3 (some .boolean) :: wsG)) B.pre)
  have hown : s.vm.findClass RX10 = some m.cls := findClass_of_methodNamed B.named
  have hlocks := B.notSynchronized
  subst hsz
  have hS : va_S (fA h0 6325 s.heap.size) s.heap s.heap [] := va_S.rf
  have hl := lv_entry ([.ref h0, .int (iZ (q))]) (n := 3) (Nat.le_of_ble_eq_true rfl)
  rw [lg_entry_eq]
  generalize (lg_sl ([.ref h0, .int (iZ (q))]) ++ List.replicate (3 - (lg_sl ([.ref h0, .int (iZ (q))])).length) Slot.unset).toArray = ls at hl ⊢
  have hl : lv_has ls 3 [(0, .ref h0), (1, .int (iZ (q)))] := hl
  refine lv_aload_n hx hb dX10_turnsOn_0 rfl (lv_at hl 0 rfl) ?_
  refine fz_get (D := (dC, dI)) (ci := 10) (v := .ref (h0 + 6317)) (C := RX10) (T := TX10) (N := 53) hx hb hts inG10 hown hK hP (k := 0) (by decide) (F := mF h0) mE_obj rfl 45 (by decide) (hts _ k1211) (fun _ h9 => h9) rfl dX10_turnsOn_1 ?_
  refine lv_iload_n hx hb dX10_turnsOn_4 rfl (lv_at hl 1 rfl) ?_
  refine fz_zld (k := 6317) (n := 1900) hx hb hK hP 1 (by decide) mE_isOn rfl ⟨by (first | ((try clear hsz); (try clear s₁); (try clear hb2); omega) | omega), by (first | ((try clear hsz); (try clear s₁); (try clear hb2); omega) | omega)⟩ (by decide) dX10_turnsOn_5 ?_
  refine lv_istore_n (lv' := [(2, .int (iZ (μ 6317 (q).toNat))), (0, .ref h0), (1, .int (iZ (q)))]) hx hb dX10_turnsOn_6 rfl hl (by decide) rfl (fun ls hl => ?_)
  refine lv_aload_n hx hb dX10_turnsOn_7 rfl (lv_at hl 1 rfl) ?_
  refine fz_get (D := (dC, dI)) (ci := 10) (v := .ref (h0 + 6317)) (C := RX10) (T := TX10) (N := 53) hx hb hts inG10 hown hK hP (k := 0) (by decide) (F := mF h0) mE_obj rfl 45 (by decide) (hts _ k1211) (fun _ h9 => h9) rfl dX10_turnsOn_8 ?_
  refine lv_iload_n hx hb dX10_turnsOn_11 rfl (lv_at hl 2 rfl) ?_
  refine lv_iconst (v := iZ 1) hx hb dX10_turnsOn_12 rfl ?_
  refine fz_zst (k := 6317) (n := 1900) (i := q) (z := 1) hx hb hK hP fA_in hS 1 (by decide) mE_isOn rfl ⟨by (first | ((try clear hsz); (try clear s₁); (try clear hb2); omega) | omega), by (first | ((try clear hsz); (try clear s₁); (try clear hb2); omega) | omega)⟩ (by decide) (by decide) dX10_turnsOn_13 (fun H locs hP hS => ?_)
  obtain ⟨μ1, eμ1⟩ : ∃ x : va_M, x = uz μ 6317 (q).toNat (1) := ⟨_, rfl⟩
  rw [← eμ1] at hP
  refine lv_iload_n hx hb dX10_turnsOn_14 rfl (lv_at hl 0 rfl) ?_
  refine fz_if_ne (tgt := 22) (by constructor <;> (first | ((try clear x); (try clear eμ1); (try clear μ1); (try clear hsz); (try clear s₁); (try clear hq); omega) | omega)) hx hb dX10_turnsOn_15 (by decide) (fun c15_ => ?_) (fun c15_ => ?_)
  · refine lv_iconst (v := iZ 0) hx hb dX10_turnsOn_22 rfl ?_
    exact W.zret (v := iZ (0)) hx hb hr (by decide +kernel) (fun t9 ht9 hW9 => ⟨⟨iZ (0), (μ1, 0), rfl, ⟨rfl, (by
                dsimp only
                subst eμ1; exact ⟨rfl, by first | rw [if_pos (by omega)] | rw [if_neg (by (first | ((try clear x); (try clear eμ1); (try clear μ1); (try clear hsz); (try clear s₁); (try clear hb2); (try clear hq); omega) | omega))]⟩)⟩, by rw [ht9]; exact hP, va_K.moved hW9.alike hK⟩, hS.F ht9⟩) hS.2.2 dX10_turnsOn_23
  · refine lv_iconst (v := iZ 1) hx hb dX10_turnsOn_18 rfl ?_
    refine lv_goto (tgt := 23) hx hb dX10_turnsOn_19 (by decide) ?_
    exact W.zret (v := iZ (1)) hx hb hr (by decide +kernel) (fun t9 ht9 hW9 => ⟨⟨iZ (1), (μ1, 1), rfl, ⟨rfl, (by
                dsimp only
                subst eμ1; exact ⟨rfl, by first | rw [if_pos (by (first | ((try clear x); (try clear eμ1); (try clear μ1); (try clear hsz); (try clear s₁); (try clear hb2); (try clear hq); omega) | omega))] | rw [if_neg (by omega)]⟩)⟩, by rw [ht9]; exact hP, va_K.moved hW9.alike hK⟩, hS.F ht9⟩) hS.2.2 dX10_turnsOn_23

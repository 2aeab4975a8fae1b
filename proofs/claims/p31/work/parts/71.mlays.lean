set_option maxRecDepth 100000 in
theorem k1476 : (Cond.methodLink "PageSkeletonModel" (307 : Nat) ({ cls := "PageSkeletonModel", name := "remembers", desc := "(I)V" } : MethodName)) ∈ wsG := wsG_a7 36 rfl rfl
set_option maxRecDepth 100000 in
theorem k1478 : (Cond.instanceMethod ({ cls := "PageSkeletonModel", name := "remembers", desc := "(I)V" } : MethodName)) ∈ wsG := wsG_a7 38 rfl rfl
set_option maxRecDepth 100000 in
theorem k1479 : (Cond.code ({ cls := "PageSkeletonModel", name := "remembers", desc := "(I)V" } : MethodName) prog_12_method_52_code (2 : Nat) (Option.none : Option Jvm.ClassFile.FieldType)) ∈ wsG := wsG_a7 39 rfl rfl
set_option maxRecDepth 100000 in
theorem k1539 : (Cond.methodLink "PageSkeletonModel" (328 : Nat) ({ cls := "PageSkeletonModel", name := "asIf", desc := "(I)I" } : MethodName)) ∈ wsG := wsG_a7 99 rfl rfl
set_option maxRecDepth 100000 in
theorem k1541 : (Cond.instanceMethod ({ cls := "PageSkeletonModel", name := "asIf", desc := "(I)I" } : MethodName)) ∈ wsG := wsG_a7 101 rfl rfl
set_option maxRecDepth 100000 in
theorem k1542 : (Cond.code ({ cls := "PageSkeletonModel", name := "asIf", desc := "(I)I" } : MethodName) prog_12_method_54_code (2 : Nat) (Option.some FieldType.int)) ∈ wsG := wsG_a7 102 rfl rfl
set_option maxRecDepth 100000 in
theorem k1543 : (Cond.methodLink "PageSkeletonModel" (334 : Nat) ({ cls := "PageSkeletonModel", name := "lays", desc := "(III)I" } : MethodName)) ∈ wsG := wsG_a7 103 rfl rfl
set_option maxRecDepth 100000 in
theorem k1545 : (Cond.instanceMethod ({ cls := "PageSkeletonModel", name := "lays", desc := "(III)I" } : MethodName)) ∈ wsG := wsG_a7 105 rfl rfl
set_option maxRecDepth 100000 in
theorem k1546 : (Cond.code ({ cls := "PageSkeletonModel", name := "lays", desc := "(III)I" } : MethodName) prog_12_method_41_code (4 : Nat) (Option.some FieldType.int)) ∈ wsG := wsG_a7 106 rfl rfl
set_option maxRecDepth 100000 in
theorem k1703 : (Cond.methodLink "PageSkeletonModel" (402 : Nat) ({ cls := "PageSkeletonModel", name := "far", desc := "(II)I" } : MethodName)) ∈ wsG := wsG_a8 23 rfl rfl
set_option maxRecDepth 100000 in
theorem k1705 : (Cond.instanceMethod ({ cls := "PageSkeletonModel", name := "far", desc := "(II)I" } : MethodName)) ∈ wsG := wsG_a8 25 rfl rfl
set_option maxRecDepth 100000 in
theorem k1706 : (Cond.code ({ cls := "PageSkeletonModel", name := "far", desc := "(II)I" } : MethodName) prog_12_method_96_code (3 : Nat) (Option.some FieldType.int)) ∈ wsG := wsG_a8 26 rfl rfl
set_option maxRecDepth 100000 in
theorem ks_yX10_lays : Cond.selects RX10 yX10_lays yX10_lays ∈ wsG := wsG_p 91 rfl rfl
set_option maxRecDepth 100000 in
theorem ks_yX10_asIf : Cond.selects RX10 yX10_asIf yX10_asIf ∈ wsG := wsG_p 90 rfl rfl
set_option maxRecDepth 100000 in
theorem ks_yX10_far : Cond.selects RX10 yX10_far yX10_far ∈ wsG := wsG_p 109 rfl rfl
set_option maxRecDepth 100000 in
theorem ks_yX10_remembers : Cond.selects RX10 yX10_remembers yX10_remembers ∈ wsG := wsG_p 78 rfl rfl
theorem dX10_asIf_0 : decode cX10_asIf 0 = .ok (.aload_n 0, 1) := by decide +kernel
theorem dX10_asIf_1 : decode cX10_asIf 1 = .ok (.getfield 325, 3) := by decide +kernel
theorem dX10_asIf_4 : decode cX10_asIf 4 = .ok (.ifCond .eq 15, 3) := by decide +kernel
theorem dX10_asIf_7 : decode cX10_asIf 7 = .ok (.aload_n 0, 1) := by decide +kernel
theorem dX10_asIf_8 : decode cX10_asIf 8 = .ok (.iconst 0, 1) := by decide +kernel
theorem dX10_asIf_9 : decode cX10_asIf 9 = .ok (.bipush 17, 2) := by decide +kernel
theorem dX10_asIf_11 : decode cX10_asIf 11 = .ok (.iload_n 1, 1) := by decide +kernel
theorem dX10_asIf_12 : decode cX10_asIf 12 = .ok (.iadd, 1) := by decide +kernel
theorem dX10_asIf_13 : decode cX10_asIf 13 = .ok (.bipush 53, 2) := by decide +kernel
theorem dX10_asIf_15 : decode cX10_asIf 15 = .ok (.invokevirtual 334, 3) := by decide +kernel
theorem dX10_asIf_18 : decode cX10_asIf 18 = .ok (.ireturn, 1) := by decide +kernel
theorem dX10_asIf_19 : decode cX10_asIf 19 = .ok (.aload_n 0, 1) := by decide +kernel
theorem dX10_asIf_20 : decode cX10_asIf 20 = .ok (.bipush 17, 2) := by decide +kernel
theorem dX10_asIf_22 : decode cX10_asIf 22 = .ok (.iload_n 1, 1) := by decide +kernel
theorem dX10_asIf_23 : decode cX10_asIf 23 = .ok (.iadd, 1) := by decide +kernel
theorem dX10_asIf_24 : decode cX10_asIf 24 = .ok (.bipush 53, 2) := by decide +kernel
theorem dX10_asIf_26 : decode cX10_asIf 26 = .ok (.invokevirtual 241, 3) := by decide +kernel
theorem dX10_asIf_29 : decode cX10_asIf 29 = .ok (.iconst 0, 1) := by decide +kernel
theorem dX10_asIf_30 : decode cX10_asIf 30 = .ok (.ireturn, 1) := by decide +kernel
theorem dX10_distance_0 : decode cX10_distance 0 = .ok (.aload_n 0, 1) := by decide +kernel
theorem dX10_distance_1 : decode cX10_distance 1 = .ok (.iconst 0, 1) := by decide +kernel
theorem dX10_distance_2 : decode cX10_distance 2 = .ok (.putfield 127, 3) := by decide +kernel
theorem dX10_distance_5 : decode cX10_distance 5 = .ok (.aload_n 0, 1) := by decide +kernel
theorem dX10_distance_6 : decode cX10_distance 6 = .ok (.aload_n 0, 1) := by decide +kernel
theorem dX10_distance_7 : decode cX10_distance 7 = .ok (.iload_n 1, 1) := by decide +kernel
theorem dX10_distance_8 : decode cX10_distance 8 = .ok (.invokevirtual 346, 3) := by decide +kernel
theorem dX10_distance_11 : decode cX10_distance 11 = .ok (.ifCond .eq 11, 3) := by decide +kernel
theorem dX10_distance_14 : decode cX10_distance 14 = .ok (.aload_n 0, 1) := by decide +kernel
theorem dX10_distance_15 : decode cX10_distance 15 = .ok (.iload_n 2, 1) := by decide +kernel
theorem dX10_distance_16 : decode cX10_distance 16 = .ok (.invokevirtual 346, 3) := by decide +kernel
theorem dX10_distance_19 : decode cX10_distance 19 = .ok (.ifCond .ne 7, 3) := by decide +kernel
theorem dX10_distance_22 : decode cX10_distance 22 = .ok (.iconst 1, 1) := by decide +kernel
theorem dX10_distance_23 : decode cX10_distance 23 = .ok (.goto 4, 3) := by decide +kernel
theorem dX10_distance_26 : decode cX10_distance 26 = .ok (.iconst 0, 1) := by decide +kernel
theorem dX10_distance_27 : decode cX10_distance 27 = .ok (.iconst 1, 1) := by decide +kernel
theorem dX10_distance_28 : decode cX10_distance 28 = .ok (.iconst 0, 1) := by decide +kernel
theorem dX10_distance_29 : decode cX10_distance 29 = .ok (.invokevirtual 177, 3) := by decide +kernel
theorem dX10_distance_32 : decode cX10_distance 32 = .ok (.ifCond .eq 5, 3) := by decide +kernel
theorem dX10_distance_35 : decode cX10_distance 35 = .ok (.iconst 0, 1) := by decide +kernel
theorem dX10_distance_36 : decode cX10_distance 36 = .ok (.ireturn, 1) := by decide +kernel
theorem dX10_distance_37 : decode cX10_distance 37 = .ok (.aload_n 0, 1) := by decide +kernel
theorem dX10_distance_38 : decode cX10_distance 38 = .ok (.iload_n 1, 1) := by decide +kernel
theorem dX10_distance_39 : decode cX10_distance 39 = .ok (.iload_n 2, 1) := by decide +kernel
theorem dX10_distance_40 : decode cX10_distance 40 = .ok (.invokevirtual 402, 3) := by decide +kernel
theorem dX10_distance_43 : decode cX10_distance 43 = .ok (.ireturn, 1) := by decide +kernel
theorem dX10_far_0 : decode cX10_far 0 = .ok (.aload_n 0, 1) := by decide +kernel
theorem dX10_far_1 : decode cX10_far 1 = .ok (.bipush 17, 2) := by decide +kernel
theorem dX10_far_3 : decode cX10_far 3 = .ok (.iload_n 2, 1) := by decide +kernel
theorem dX10_far_4 : decode cX10_far 4 = .ok (.iadd, 1) := by decide +kernel
theorem dX10_far_5 : decode cX10_far 5 = .ok (.bipush 17, 2) := by decide +kernel
theorem dX10_far_7 : decode cX10_far 7 = .ok (.iload_n 1, 1) := by decide +kernel
theorem dX10_far_8 : decode cX10_far 8 = .ok (.iadd, 1) := by decide +kernel
theorem dX10_far_9 : decode cX10_far 9 = .ok (.bipush 53, 2) := by decide +kernel
theorem dX10_far_11 : decode cX10_far 11 = .ok (.invokevirtual 334, 3) := by decide +kernel
theorem dX10_far_14 : decode cX10_far 14 = .ok (.ireturn, 1) := by decide +kernel
theorem dX10_lay_0 : decode cX10_lay 0 = .ok (.aload_n 0, 1) := by decide +kernel
theorem dX10_lay_1 : decode cX10_lay 1 = .ok (.iconst 0, 1) := by decide +kernel
theorem dX10_lay_2 : decode cX10_lay 2 = .ok (.putfield 127, 3) := by decide +kernel
theorem dX10_lay_5 : decode cX10_lay 5 = .ok (.aload_n 0, 1) := by decide +kernel
theorem dX10_lay_6 : decode cX10_lay 6 = .ok (.iload_n 1, 1) := by decide +kernel
theorem dX10_lay_7 : decode cX10_lay 7 = .ok (.iconst 0, 1) := by decide +kernel
theorem dX10_lay_8 : decode cX10_lay 8 = .ok (.aload_n 0, 1) := by decide +kernel
theorem dX10_lay_9 : decode cX10_lay 9 = .ok (.getfield 181, 3) := by decide +kernel
theorem dX10_lay_12 : decode cX10_lay 12 = .ok (.iconst 1, 1) := by decide +kernel
theorem dX10_lay_13 : decode cX10_lay 13 = .ok (.isub, 1) := by decide +kernel
theorem dX10_lay_14 : decode cX10_lay 14 = .ok (.invokestatic 173, 3) := by decide +kernel
theorem dX10_lay_17 : decode cX10_lay 17 = .ok (.ifCond .ne 7, 3) := by decide +kernel
theorem dX10_lay_20 : decode cX10_lay 20 = .ok (.iconst 1, 1) := by decide +kernel
theorem dX10_lay_21 : decode cX10_lay 21 = .ok (.goto 4, 3) := by decide +kernel
theorem dX10_lay_24 : decode cX10_lay 24 = .ok (.iconst 0, 1) := by decide +kernel
theorem dX10_lay_25 : decode cX10_lay 25 = .ok (.iconst 1, 1) := by decide +kernel
theorem dX10_lay_26 : decode cX10_lay 26 = .ok (.iconst 0, 1) := by decide +kernel
theorem dX10_lay_27 : decode cX10_lay 27 = .ok (.invokevirtual 177, 3) := by decide +kernel
theorem dX10_lay_30 : decode cX10_lay 30 = .ok (.ifCond .eq 5, 3) := by decide +kernel
theorem dX10_lay_33 : decode cX10_lay 33 = .ok (.iconst 0, 1) := by decide +kernel
theorem dX10_lay_34 : decode cX10_lay 34 = .ok (.ireturn, 1) := by decide +kernel
theorem dX10_lay_35 : decode cX10_lay 35 = .ok (.aload_n 0, 1) := by decide +kernel
theorem dX10_lay_36 : decode cX10_lay 36 = .ok (.iload_n 1, 1) := by decide +kernel
theorem dX10_lay_37 : decode cX10_lay 37 = .ok (.invokevirtual 328, 3) := by decide +kernel
theorem dX10_lay_40 : decode cX10_lay 40 = .ok (.istore_n 2, 1) := by decide +kernel
theorem dX10_lay_41 : decode cX10_lay 41 = .ok (.aload_n 0, 1) := by decide +kernel
theorem dX10_lay_42 : decode cX10_lay 42 = .ok (.aload_n 0, 1) := by decide +kernel
theorem dX10_lay_43 : decode cX10_lay 43 = .ok (.bipush 53, 2) := by decide +kernel
theorem dX10_lay_45 : decode cX10_lay 45 = .ok (.invokevirtual 313, 3) := by decide +kernel
theorem dX10_lay_48 : decode cX10_lay 48 = .ok (.sipush 160, 3) := by decide +kernel
theorem dX10_lay_51 : decode cX10_lay 51 = .ok (.if_icmp .le 7, 3) := by decide +kernel
theorem dX10_lay_54 : decode cX10_lay 54 = .ok (.iconst 1, 1) := by decide +kernel
theorem dX10_lay_55 : decode cX10_lay 55 = .ok (.goto 4, 3) := by decide +kernel
theorem dX10_lay_58 : decode cX10_lay 58 = .ok (.iconst 0, 1) := by decide +kernel
theorem dX10_lay_59 : decode cX10_lay 59 = .ok (.iconst 2, 1) := by decide +kernel
theorem dX10_lay_60 : decode cX10_lay 60 = .ok (.iconst 2, 1) := by decide +kernel
theorem dX10_lay_61 : decode cX10_lay 61 = .ok (.invokevirtual 177, 3) := by decide +kernel
theorem dX10_lay_64 : decode cX10_lay 64 = .ok (.ifCond .eq 5, 3) := by decide +kernel
theorem dX10_lay_67 : decode cX10_lay 67 = .ok (.iconst 0, 1) := by decide +kernel
theorem dX10_lay_68 : decode cX10_lay 68 = .ok (.ireturn, 1) := by decide +kernel
theorem dX10_lay_69 : decode cX10_lay 69 = .ok (.aload_n 0, 1) := by decide +kernel
theorem dX10_lay_70 : decode cX10_lay 70 = .ok (.iload_n 2, 1) := by decide +kernel
theorem dX10_lay_71 : decode cX10_lay 71 = .ok (.invokevirtual 307, 3) := by decide +kernel
theorem dX10_lay_74 : decode cX10_lay 74 = .ok (.aload_n 0, 1) := by decide +kernel
theorem dX10_lay_75 : decode cX10_lay 75 = .ok (.bipush 53, 2) := by decide +kernel
theorem dX10_lay_77 : decode cX10_lay 77 = .ok (.iconst 0, 1) := by decide +kernel
theorem dX10_lay_78 : decode cX10_lay 78 = .ok (.invokevirtual 241, 3) := by decide +kernel
theorem dX10_lay_81 : decode cX10_lay 81 = .ok (.aload_n 0, 1) := by decide +kernel
theorem dX10_lay_82 : decode cX10_lay 82 = .ok (.iconst 1, 1) := by decide +kernel
theorem dX10_lay_83 : decode cX10_lay 83 = .ok (.putfield 325, 3) := by decide +kernel
theorem dX10_lay_86 : decode cX10_lay 86 = .ok (.aload_n 0, 1) := by decide +kernel
theorem dX10_lay_87 : decode cX10_lay 87 = .ok (.dup, 1) := by decide +kernel
theorem dX10_lay_88 : decode cX10_lay 88 = .ok (.getfield 331, 3) := by decide +kernel
theorem dX10_lay_91 : decode cX10_lay 91 = .ok (.iload_n 2, 1) := by decide +kernel
theorem dX10_lay_92 : decode cX10_lay 92 = .ok (.iadd, 1) := by decide +kernel
theorem dX10_lay_93 : decode cX10_lay 93 = .ok (.putfield 331, 3) := by decide +kernel
theorem dX10_lay_96 : decode cX10_lay 96 = .ok (.iload_n 2, 1) := by decide +kernel
theorem dX10_lay_97 : decode cX10_lay 97 = .ok (.ireturn, 1) := by decide +kernel
theorem dX10_lays_0 : decode cX10_lays 0 = .ok (.aload_n 0, 1) := by decide +kernel
theorem dX10_lays_1 : decode cX10_lays 1 = .ok (.iload_n 3, 1) := by decide +kernel
theorem dX10_lays_2 : decode cX10_lays 2 = .ok (.invokevirtual 197, 3) := by decide +kernel
theorem dX10_lays_5 : decode cX10_lays 5 = .ok (.aload_n 0, 1) := by decide +kernel
theorem dX10_lays_6 : decode cX10_lays 6 = .ok (.iconst 0, 1) := by decide +kernel
theorem dX10_lays_7 : decode cX10_lays 7 = .ok (.iload_n 1, 1) := by decide +kernel
theorem dX10_lays_8 : decode cX10_lays 8 = .ok (.iconst 0, 1) := by decide +kernel
theorem dX10_lays_9 : decode cX10_lays 9 = .ok (.aload_n 0, 1) := by decide +kernel
theorem dX10_lays_10 : decode cX10_lays 10 = .ok (.getfield 54, 3) := by decide +kernel
theorem dX10_lays_13 : decode cX10_lays 13 = .ok (.iload_n 1, 1) := by decide +kernel
theorem dX10_lays_14 : decode cX10_lays 14 = .ok (.iaload, 1) := by decide +kernel
theorem dX10_lays_15 : decode cX10_lays 15 = .ok (.iload_n 2, 1) := by decide +kernel
theorem dX10_lays_16 : decode cX10_lays 16 = .ok (.iconst 0, 1) := by decide +kernel
theorem dX10_lays_17 : decode cX10_lays 17 = .ok (.aload_n 0, 1) := by decide +kernel
theorem dX10_lays_18 : decode cX10_lays 18 = .ok (.getfield 54, 3) := by decide +kernel
theorem dX10_lays_21 : decode cX10_lays 21 = .ok (.iload_n 2, 1) := by decide +kernel
theorem dX10_lays_22 : decode cX10_lays 22 = .ok (.iaload, 1) := by decide +kernel
theorem dX10_lays_23 : decode cX10_lays 23 = .ok (.iload_n 3, 1) := by decide +kernel
theorem dX10_lays_24 : decode cX10_lays 24 = .ok (.invokevirtual 260, 3) := by decide +kernel
theorem dX10_lays_27 : decode cX10_lays 27 = .ok (.ireturn, 1) := by decide +kernel
theorem dX10_nearest_0 : decode cX10_nearest 0 = .ok (.aload_n 0, 1) := by decide +kernel
theorem dX10_nearest_1 : decode cX10_nearest 1 = .ok (.iconst 0, 1) := by decide +kernel
theorem dX10_nearest_2 : decode cX10_nearest 2 = .ok (.putfield 127, 3) := by decide +kernel
theorem dX10_nearest_5 : decode cX10_nearest 5 = .ok (.aload_n 0, 1) := by decide +kernel
theorem dX10_nearest_6 : decode cX10_nearest 6 = .ok (.aload_n 0, 1) := by decide +kernel
theorem dX10_nearest_7 : decode cX10_nearest 7 = .ok (.iload_n 1, 1) := by decide +kernel
theorem dX10_nearest_8 : decode cX10_nearest 8 = .ok (.invokevirtual 346, 3) := by decide +kernel
theorem dX10_nearest_11 : decode cX10_nearest 11 = .ok (.ifCond .ne 7, 3) := by decide +kernel
theorem dX10_nearest_14 : decode cX10_nearest 14 = .ok (.iconst 1, 1) := by decide +kernel
theorem dX10_nearest_15 : decode cX10_nearest 15 = .ok (.goto 4, 3) := by decide +kernel
theorem dX10_nearest_18 : decode cX10_nearest 18 = .ok (.iconst 0, 1) := by decide +kernel
theorem dX10_nearest_19 : decode cX10_nearest 19 = .ok (.iconst 1, 1) := by decide +kernel
theorem dX10_nearest_20 : decode cX10_nearest 20 = .ok (.iconst 0, 1) := by decide +kernel
theorem dX10_nearest_21 : decode cX10_nearest 21 = .ok (.invokevirtual 177, 3) := by decide +kernel
theorem dX10_nearest_24 : decode cX10_nearest 24 = .ok (.ifCond .eq 5, 3) := by decide +kernel
theorem dX10_nearest_27 : decode cX10_nearest 27 = .ok (.iconst 0, 1) := by decide +kernel
theorem dX10_nearest_28 : decode cX10_nearest 28 = .ok (.ireturn, 1) := by decide +kernel
theorem dX10_nearest_29 : decode cX10_nearest 29 = .ok (.iconst (-1), 1) := by decide +kernel
theorem dX10_nearest_30 : decode cX10_nearest 30 = .ok (.istore_n 2, 1) := by decide +kernel
theorem dX10_nearest_31 : decode cX10_nearest 31 = .ok (.ldc 247, 2) := by decide +kernel
theorem dX10_nearest_33 : decode cX10_nearest 33 = .ok (.istore_n 3, 1) := by decide +kernel
theorem dX10_nearest_34 : decode cX10_nearest 34 = .ok (.iconst 0, 1) := by decide +kernel
theorem dX10_nearest_35 : decode cX10_nearest 35 = .ok (.istore 4, 2) := by decide +kernel
theorem dX10_nearest_37 : decode cX10_nearest 37 = .ok (.iload 4, 2) := by decide +kernel
theorem dX10_nearest_39 : decode cX10_nearest 39 = .ok (.aload_n 0, 1) := by decide +kernel
theorem dX10_nearest_40 : decode cX10_nearest 40 = .ok (.getfield 181, 3) := by decide +kernel
theorem dX10_nearest_43 : decode cX10_nearest 43 = .ok (.if_icmp .ge 44, 3) := by decide +kernel
theorem dX10_nearest_46 : decode cX10_nearest 46 = .ok (.iload 4, 2) := by decide +kernel
theorem dX10_nearest_48 : decode cX10_nearest 48 = .ok (.iload_n 1, 1) := by decide +kernel
theorem dX10_nearest_49 : decode cX10_nearest 49 = .ok (.if_icmp .ne 8, 3) := by decide +kernel
theorem dX10_nearest_52 : decode cX10_nearest 52 = .ok (.ldc 247, 2) := by decide +kernel
theorem dX10_nearest_54 : decode cX10_nearest 54 = .ok (.goto 10, 3) := by decide +kernel
theorem dX10_nearest_57 : decode cX10_nearest 57 = .ok (.aload_n 0, 1) := by decide +kernel
theorem dX10_nearest_58 : decode cX10_nearest 58 = .ok (.iload_n 1, 1) := by decide +kernel
theorem dX10_nearest_59 : decode cX10_nearest 59 = .ok (.iload 4, 2) := by decide +kernel
theorem dX10_nearest_61 : decode cX10_nearest 61 = .ok (.invokevirtual 402, 3) := by decide +kernel
theorem dX10_nearest_64 : decode cX10_nearest 64 = .ok (.istore 5, 2) := by decide +kernel
theorem dX10_nearest_66 : decode cX10_nearest 66 = .ok (.iload 5, 2) := by decide +kernel
theorem dX10_nearest_68 : decode cX10_nearest 68 = .ok (.iload_n 3, 1) := by decide +kernel
theorem dX10_nearest_69 : decode cX10_nearest 69 = .ok (.if_icmp .lt 6, 3) := by decide +kernel
theorem dX10_nearest_72 : decode cX10_nearest 72 = .ok (.goto 9, 3) := by decide +kernel
theorem dX10_nearest_75 : decode cX10_nearest 75 = .ok (.iload 4, 2) := by decide +kernel
theorem dX10_nearest_77 : decode cX10_nearest 77 = .ok (.istore_n 2, 1) := by decide +kernel
theorem dX10_nearest_78 : decode cX10_nearest 78 = .ok (.iload 5, 2) := by decide +kernel
theorem dX10_nearest_80 : decode cX10_nearest 80 = .ok (.istore_n 3, 1) := by decide +kernel
theorem dX10_nearest_81 : decode cX10_nearest 81 = .ok (.iinc 4 1, 3) := by decide +kernel
theorem dX10_nearest_84 : decode cX10_nearest 84 = .ok (.goto (-47), 3) := by decide +kernel
theorem dX10_nearest_87 : decode cX10_nearest 87 = .ok (.iload_n 2, 1) := by decide +kernel
theorem dX10_nearest_88 : decode cX10_nearest 88 = .ok (.ireturn, 1) := by decide +kernel
theorem dX10_would_0 : decode cX10_would 0 = .ok (.aload_n 0, 1) := by decide +kernel
theorem dX10_would_1 : decode cX10_would 1 = .ok (.iconst 0, 1) := by decide +kernel
theorem dX10_would_2 : decode cX10_would 2 = .ok (.putfield 127, 3) := by decide +kernel
theorem dX10_would_5 : decode cX10_would 5 = .ok (.aload_n 0, 1) := by decide +kernel
theorem dX10_would_6 : decode cX10_would 6 = .ok (.aload_n 0, 1) := by decide +kernel
theorem dX10_would_7 : decode cX10_would 7 = .ok (.iload_n 1, 1) := by decide +kernel
theorem dX10_would_8 : decode cX10_would 8 = .ok (.invokevirtual 346, 3) := by decide +kernel
theorem dX10_would_11 : decode cX10_would 11 = .ok (.ifCond .ne 7, 3) := by decide +kernel
theorem dX10_would_14 : decode cX10_would 14 = .ok (.iconst 1, 1) := by decide +kernel
theorem dX10_would_15 : decode cX10_would 15 = .ok (.goto 4, 3) := by decide +kernel
theorem dX10_would_18 : decode cX10_would 18 = .ok (.iconst 0, 1) := by decide +kernel
theorem dX10_would_19 : decode cX10_would 19 = .ok (.iconst 1, 1) := by decide +kernel
theorem dX10_would_20 : decode cX10_would 20 = .ok (.iconst 0, 1) := by decide +kernel
theorem dX10_would_21 : decode cX10_would 21 = .ok (.invokevirtual 177, 3) := by decide +kernel
theorem dX10_would_24 : decode cX10_would 24 = .ok (.ifCond .ne 26, 3) := by decide +kernel
theorem dX10_would_27 : decode cX10_would 27 = .ok (.aload_n 0, 1) := by decide +kernel
theorem dX10_would_28 : decode cX10_would 28 = .ok (.iload_n 2, 1) := by decide +kernel
theorem dX10_would_29 : decode cX10_would 29 = .ok (.iconst 0, 1) := by decide +kernel
theorem dX10_would_30 : decode cX10_would 30 = .ok (.iconst 2, 1) := by decide +kernel
theorem dX10_would_31 : decode cX10_would 31 = .ok (.invokestatic 173, 3) := by decide +kernel
theorem dX10_would_34 : decode cX10_would 34 = .ok (.ifCond .ne 7, 3) := by decide +kernel
theorem dX10_would_37 : decode cX10_would 37 = .ok (.iconst 1, 1) := by decide +kernel
theorem dX10_would_38 : decode cX10_would 38 = .ok (.goto 4, 3) := by decide +kernel
theorem dX10_would_41 : decode cX10_would 41 = .ok (.iconst 0, 1) := by decide +kernel
theorem dX10_would_42 : decode cX10_would 42 = .ok (.iconst 2, 1) := by decide +kernel
theorem dX10_would_43 : decode cX10_would 43 = .ok (.iconst 1, 1) := by decide +kernel
theorem dX10_would_44 : decode cX10_would 44 = .ok (.invokevirtual 177, 3) := by decide +kernel
theorem dX10_would_47 : decode cX10_would 47 = .ok (.ifCond .eq 5, 3) := by decide +kernel
theorem dX10_would_50 : decode cX10_would 50 = .ok (.iconst 0, 1) := by decide +kernel
theorem dX10_would_51 : decode cX10_would 51 = .ok (.ireturn, 1) := by decide +kernel
theorem dX10_would_52 : decode cX10_would 52 = .ok (.aload_n 0, 1) := by decide +kernel
theorem dX10_would_53 : decode cX10_would 53 = .ok (.iload_n 1, 1) := by decide +kernel
theorem dX10_would_54 : decode cX10_would 54 = .ok (.invokevirtual 328, 3) := by decide +kernel
theorem dX10_would_57 : decode cX10_would 57 = .ok (.istore_n 3, 1) := by decide +kernel
theorem dX10_would_58 : decode cX10_would 58 = .ok (.iload_n 2, 1) := by decide +kernel
theorem dX10_would_59 : decode cX10_would 59 = .ok (.ifCond .ne 7, 3) := by decide +kernel
theorem dX10_would_62 : decode cX10_would 62 = .ok (.iload_n 3, 1) := by decide +kernel
theorem dX10_would_63 : decode cX10_would 63 = .ok (.goto 24, 3) := by decide +kernel
theorem dX10_would_66 : decode cX10_would 66 = .ok (.iload_n 2, 1) := by decide +kernel
theorem dX10_would_67 : decode cX10_would 67 = .ok (.iconst 1, 1) := by decide +kernel
theorem dX10_would_68 : decode cX10_would 68 = .ok (.if_icmp .ne 12, 3) := by decide +kernel
theorem dX10_would_71 : decode cX10_would 71 = .ok (.aload_n 0, 1) := by decide +kernel
theorem dX10_would_72 : decode cX10_would 72 = .ok (.bipush 53, 2) := by decide +kernel
theorem dX10_would_74 : decode cX10_would 74 = .ok (.invokevirtual 313, 3) := by decide +kernel
theorem dX10_would_77 : decode cX10_would 77 = .ok (.goto 10, 3) := by decide +kernel
theorem dX10_would_80 : decode cX10_would 80 = .ok (.aload_n 0, 1) := by decide +kernel
theorem dX10_would_81 : decode cX10_would 81 = .ok (.getfield 54, 3) := by decide +kernel
theorem dX10_would_84 : decode cX10_would 84 = .ok (.bipush 53, 2) := by decide +kernel
theorem dX10_would_86 : decode cX10_would 86 = .ok (.iaload, 1) := by decide +kernel
theorem dX10_would_87 : decode cX10_would 87 = .ok (.ireturn, 1) := by decide +kernel
/-! two trees laid against each other; what comes of a page; a page laid -/
def LPq (t x y : Nat) : Prop := LD 0 x y ∨ PT t x y
def asW (f : Int) (w b : Rw) : Rw := if f = 0 then b else lrow w b
def ordK : Nat → Rw → Prop
  | 0, w => rPage w ∧ 1 ≤ rI w
  | n + 1, w => ∃ w0 b : Rw, ordK n w0 ∧ (rPage b ∧ 1 ≤ rI b) ∧ w = lrow w0 b
/-- what is kept of each skeleton is kept by laying -/
def JOK (J : Rw → Prop) : Prop := J .leaf ∧ (∀ w : Rw, J w → skB w ∧ rL w ≤ 160) ∧ (∀ w : Rw, rPage w → 1 ≤ rI w → J w) ∧ (∀ w b : Rw, J w → rPage b → 1 ≤ rI b → skB (lrow w b) ∧ (rL (lrow w b) ≤ 160 → J (lrow w b))) ∧ (∀ (n : Nat) (w : Rw), n ≤ 3 → ordK n w → skB w ∧ rL w ≤ 259)
theorem rL_T : ∀ w : Rw, rWF w → rL w ≤ rT w
  | .leaf, _ => Nat.le_refl _
  | .inner z k v l r, ⟨_, f2, f3, _, _, _, f7, f8⟩ => by
    have h1 := rL_T r f8
    have h2 := rL_T l f7
    have e : rL (Std.DTreeMap.Internal.Impl.inner z k v l r : Rw) = (if k < 3 then 1 else 0) + rL l + rL r := rfl
    rw [rT_in, e]
    by_cases h : k < 3
    · have e : rL l = 0 := by rw [f2 h]; rfl
      rw [if_pos h, if_pos h]; omega
    · rw [if_neg h, if_neg h]; omega
theorem asW_J {J : Rw → Prop} (hJK : JOK J) {f : Int} {w b : Rw} (h1 : J w) (h2 : rPage b) (h3 : 1 ≤ rI b) : skB (asW f w b) ∧ (rL (asW f w b) ≤ 160 → J (asW f w b)) := by
  unfold asW
  split
  · have := hJK.2.2.1 b h2 h3
    exact ⟨(hJK.2.1 b this).1, fun _ => this⟩
  · exact hJK.2.2.2.1 w b h1 h2 h3
theorem LPq_PS {x y : Nat} (h : LPq 53 x y) : PS x y := by
  unfold LPq LD PT at h
  unfold PS
  omega
theorem lay_60 {w b : Rw} (h : rL w ≤ 260) (hb9 : rPage b) : 0 ≤ (lay w b).1 ∧ (lay w b).1 ≤ 400 := by
  have h1 := lay_1 w b
  have h2 := rL_T b hb9.1
  have h3 := hb9.2.2
  omega
set_option maxHeartbeats 4000000 in
set_option maxRecDepth 100000 in
theorem m_lays (l : Launch) (dC : Nat → ClassId) (dI : Nat → Nat → Nat) (cI cZ cII cIII : ClassId) (h0 sz : Nat) (μ : va_M) (t : Int) (u1 : Int) (o1 : Int) (wS : Rw) (wP : Rw) (ht : 0 ≤ t ∧ t < 70) (hu : 0 ≤ u1 ∧ u1 < 70) (ho : 0 ≤ o1 ∧ o1 < 70 ∧ o1 ≠ t ∧ o1 ≠ u1) (hTS : TR μ t.toNat wS) (hTP : TR μ u1.toNat wP) (hwS : rWF wS) (hwP : rWF wP) (hN : rN wS ≤ 900 ∧ rN wP ≤ 900) (h260 : rL wS ≤ 259 ∧ rL wP ≤ 60 ∧ rH wS ≤ 20) (hH9 : rH wP ≤ 6) (hC9 : rN (lrow wS wP) ≤ 900) : Met l yX10_lays (Cond.code yX10_lays cX10_lays 4 (some .int) :: wsG) ({ frames := 68, cells := 0, slots := 0, locals := 2332 } : Room) (va_Pc [.ref h0, .int (iZ (t)), .int (iZ (u1)), .int (iZ (o1))] (fun U => U.heap.size = sz ∧ va_P (dC, dI) vwCl (fw (mE cI cZ cII cIII h0) h0 6325 μ) U.heap ∧ va_K (dC, dI) vwCl (mT cI cZ cII cIII) U)) (va_Qi (fun (r9 : Int32) (u : va_M × Int) => r9 = iZ u.2 ∧ (fun (u : va_M) (r : Int) => r = (lay wS wP).1 ∧ TR u o1.toNat (lrow wS wP) ∧ fr (LPq o1.toNat) μ u) u.1 u.2) (fun u t => va_P (dC, dI) vwCl (fw (mE cI cZ cII cIII h0) h0 6325 u.1) t.heap ∧ va_K (dC, dI) vwCl (mT cI cZ cII cIII) t) (fA h0 6325 sz)) 0 0 (fA h0 6325 sz) := by
  refine Met.ofW (cc := cX10_lays) (maxL := 4) (ret := (some .int)) (by decide) rfl ?_
  intro p e s m args below meth c s₁ B hml hv
  obtain ⟨rfl, hsz, hP, hK⟩ := hv
  have hx := B.exec
  have hb := B.bytes
  have hr := B.returns
  have hts : ∀ w ∈ wsG, w.before _ s = true := hG_of (atoms_spec (ws := (Cond.code yX10_lays cX10_lays 4 (some .int) :: wsG)) B.pre)
  have hown : s.vm.findClass RX10 = some m.cls := findClass_of_methodNamed B.named
  have hlocks := B.notSynchronized
  subst hsz
  have hS : va_S (fA h0 6325 s.heap.size) s.heap s.heap [] := va_S.rf
  have hl := lv_entry ([.ref h0, .int (iZ (t)), .int (iZ (u1)), .int (iZ (o1))]) (n := 4) (Nat.le_of_ble_eq_true rfl)
  rw [lg_entry_eq]
  generalize (lg_sl ([.ref h0, .int (iZ (t)), .int (iZ (u1)), .int (iZ (o1))]) ++ List.replicate (4 - (lg_sl ([.ref h0, .int (iZ (t)), .int (iZ (u1)), .int (iZ (o1))])).length) Slot.unset).toArray = ls at hl ⊢
  have hl : lv_has ls 4 [(0, .ref h0), (1, .int (iZ (t))), (2, .int (iZ (u1))), (3, .int (iZ (o1)))] := hl
  refine lv_aload_n hx hb dX10_lays_0 rfl (lv_at hl 0 rfl) ?_
  refine lv_iload_n hx hb dX10_lays_1 rfl (lv_at hl 3 rfl) ?_
  refine va_callv (va_runV (As := [.int (iZ (o1))]) (rest := []) ⟨hx, hb, hml, hown, hts⟩ (m_empties l dC dI cI cZ cII cIII h0 s.heap.size μ (o1) (by first | assumption | (first | ((try clear hsz); (try clear s₁); (try clear hC9); (try clear hH9); (try clear h260); (try clear hN); (try clear hu); (try clear ht); omega) | omega) | exact ⟨by omega, by omega⟩)) (cwV 1 hts (gV_G k1377 k1379 ks_yX10_empties k13 k1380) rfl rfl rfl (by decide +kernel) ⟨Nat.le_of_ble_eq_true rfl, Nat.le_of_ble_eq_true rfl⟩) ⟨fun a U g mk q => by obtain ⟨q0, q1, qP, qK⟩ := q; exact ⟨q0, q1, qP, va_K.moved (u := U) (U := U.calling g mk a) (Vm.Alike.refl U.vm) qK⟩, va_recv hK hP (ci := 10) (q0 := 0) rfl ((fw_get (by decide)).trans (by rw [mE_obj]; rfl)), fun U hU hW => ⟨rfl, by rw [hU], by rw [hU]; exact hP, va_K.moved hW.alike hK⟩⟩ rfl rfl hl.1 rfl (lv_room (Nat.le_of_ble_eq_true rfl)) dX10_lays_2 ⟨Nat.le_of_ble_eq_true rfl, Nat.le_of_ble_eq_true rfl⟩) hS (fun q _ h => fA_le hS.1 q h) (fA_le hS.1) (fun u9 t9 H1 locs ht9 hvm9 hw9 hB9 hz9 hk9 hS => ?_)
  obtain ⟨hP, -⟩ := hB9
  rw [ht9] at hP
  generalize H1 = H at hP hS ⊢
  obtain ⟨μa, eμa⟩ : ∃ x : va_M, x = u9 := ⟨_, rfl⟩
  rw [← eμa] at hP hw9
  have hμa := hw9; clear hw9
  have hfa : fr (fun x y => x = 719 ∧ y = o1.toNat) μ μa := by rw [hμa]; exact fr_uz fr_rfl ⟨rfl, rfl⟩
  refine lv_aload_n hx hb dX10_lays_5 rfl (lv_at hl 0 rfl) ?_
  refine lv_iconst (v := iZ 0) hx hb dX10_lays_6 rfl ?_
  refine lv_iload_n hx hb dX10_lays_7 rfl (lv_at hl 1 rfl) ?_
  refine lv_iconst (v := iZ 0) hx hb dX10_lays_8 rfl ?_
  refine lv_aload_n hx hb dX10_lays_9 rfl (lv_at hl 0 rfl) ?_
  refine fz_get (D := (dC, dI)) (ci := 10) (v := .ref (h0 + 719)) (C := RX10) (T := TX10) (N := 53) hx hb hts inG10 hown hK hP (k := 0) (by decide) (F := mF h0) mE_obj rfl 21 (by decide) (hts _ k1187) (fun _ h9 => h9) rfl dX10_lays_10 ?_
  refine lv_iload_n hx hb dX10_lays_13 rfl (lv_at hl 1 rfl) ?_
  refine fz_ld (k := 719) (n := 70) hx hb hK hP 0 (by decide) mE_nodes rfl ⟨by (first | ((try clear hfa); (try clear hμa); (try clear x); (try clear eμa); (try clear μa); (try clear hz9); (try clear hsz); (try clear s₁); (try clear hC9); (try clear hH9); (try clear h260); (try clear hN); (try clear ho); (try clear hu); omega) | omega), by (first | ((try clear hfa); (try clear hμa); (try clear x); (try clear eμa); (try clear μa); (try clear hz9); (try clear hsz); (try clear s₁); (try clear hC9); (try clear hH9); (try clear h260); (try clear hN); (try clear ho); (try clear hu); omega) | omega)⟩ (by decide) dX10_lays_14 ?_
  rw [show μa 719 (t).toNat = (rN wS : Int) from (by rw [hfa _ _ (by (first | ((try clear hfa); (try clear hμa); (try clear x); (try clear eμa); (try clear μa); (try clear hz9); (try clear hsz); (try clear s₁); (try clear hC9); (try clear hH9); (try clear h260); (try clear hN); omega) | omega))]; exact hTS.1)]
  refine lv_iload_n hx hb dX10_lays_15 rfl (lv_at hl 2 rfl) ?_
  refine lv_iconst (v := iZ 0) hx hb dX10_lays_16 rfl ?_
  refine lv_aload_n hx hb dX10_lays_17 rfl (lv_at hl 0 rfl) ?_
  refine fz_get (D := (dC, dI)) (ci := 10) (v := .ref (h0 + 719)) (C := RX10) (T := TX10) (N := 53) hx hb hts inG10 hown hK hP (k := 0) (by decide) (F := mF h0) mE_obj rfl 21 (by decide) (hts _ k1187) (fun _ h9 => h9) rfl dX10_lays_18 ?_
  refine lv_iload_n hx hb dX10_lays_21 rfl (lv_at hl 2 rfl) ?_
  refine fz_ld (k := 719) (n := 70) hx hb hK hP 0 (by decide) mE_nodes rfl ⟨by (first | ((try clear hfa); (try clear hμa); (try clear x); (try clear eμa); (try clear μa); (try clear hz9); (try clear hsz); (try clear s₁); (try clear hC9); (try clear hH9); (try clear h260); (try clear hN); (try clear ho); (try clear ht); omega) | omega), by (first | ((try clear hfa); (try clear hμa); (try clear x); (try clear eμa); (try clear μa); (try clear hz9); (try clear hsz); (try clear s₁); (try clear hC9); (try clear hH9); (try clear h260); (try clear hN); (try clear ho); (try clear ht); omega) | omega)⟩ (by decide) dX10_lays_22 ?_
  rw [show μa 719 (u1).toNat = (rN wP : Int) from (by rw [hfa _ _ (by (first | ((try clear hfa); (try clear hμa); (try clear x); (try clear eμa); (try clear μa); (try clear hz9); (try clear hsz); (try clear s₁); (try clear hC9); (try clear hH9); (try clear h260); (try clear hN); (try clear ht); omega) | omega))]; exact hTP.1)]
  refine lv_iload_n hx hb dX10_lays_23 rfl (lv_at hl 3 rfl) ?_
  refine va_calli (va_runV (As := [.int (iZ (0)), .int (iZ (t)), .int (iZ (0)), .int (iZ ((rN wS : Int))), .int (iZ (u1)), .int (iZ (0)), .int (iZ ((rN wP : Int))), .int (iZ (o1))]) (rest := []) ⟨hx, hb, hml, hown, hts⟩ (m_laysRow l dC dI cI cZ cII cIII h0 (7) H.size μa (0) (t) (0) ((rN wS : Int)) (u1) (0) ((rN wP : Int)) (o1) (wS) (wP) (by (first | ((try clear hfa); (try clear hμa); (try clear x); (try clear eμa); (try clear μa); (try clear hz9); (try clear hsz); (try clear s₁); (try clear hC9); (try clear h260); (try clear hN); (try clear ho); (try clear hu); (try clear ht); omega) | omega)) (by first | assumption | omega | exact ⟨by omega, by omega⟩) (by first | assumption | omega | exact ⟨by omega, by omega⟩) (by (first | ((try clear hfa); (try clear hμa); (try clear x); (try clear eμa); (try clear μa); (try clear hz9); (try clear hsz); (try clear s₁); (try clear hC9); (try clear hH9); (try clear h260); (try clear ho); (try clear hu); (try clear ht); omega) | omega)) (by (first | ((try clear hfa); (try clear hμa); (try clear x); (try clear eμa); (try clear μa); (try clear hz9); (try clear hsz); (try clear s₁); (try clear hC9); (try clear hH9); (try clear h260); (try clear ho); (try clear hu); (try clear ht); omega) | omega)) (by exact RA_fr hTS.2 hfa (fun x => by (first | ((try clear hfa); (try clear hμa); (try clear eμa); (try clear μa); (try clear hz9); (try clear hsz); (try clear s₁); (try clear hC9); (try clear hH9); (try clear h260); (try clear hN); (try clear ho); (try clear hu); omega) | omega))) (by exact RA_fr hTP.2 hfa (fun x => by (first | ((try clear hfa); (try clear hμa); (try clear eμa); (try clear μa); (try clear hz9); (try clear hsz); (try clear s₁); (try clear hC9); (try clear hH9); (try clear h260); (try clear hN); (try clear ho); (try clear ht); omega) | omega))) (by exact hwS) (by exact hwP) (by first | assumption | omega | exact ⟨by omega, by omega⟩) (by (first | ((try clear hfa); (try clear hμa); (try clear x); (try clear eμa); (try clear μa); (try clear hz9); (try clear hsz); (try clear s₁); (try clear hC9); (try clear hH9); (try clear h260); (try clear hN); (try clear hu); (try clear ht); omega) | omega)) (by intro h; rw [hμa, uz_s]; (first | ((try clear h); (try clear hfa); (try clear hμa); (try clear x); (try clear eμa); (try clear μa); (try clear hz9); (try clear hsz); (try clear s₁); (try clear hH9); (try clear h260); (try clear hN); (try clear ho); (try clear hu); (try clear ht); omega) | omega)) (by (first | ((try clear hfa); (try clear hμa); (try clear x); (try clear eμa); (try clear μa); (try clear hz9); (try clear hsz); (try clear s₁); (try clear hC9); (try clear h260); (try clear hN); (try clear ho); (try clear hu); (try clear ht); omega) | omega))) (cwV 8 hts (gV_G k1547 k1549 ks_yX10_laysRow k13 k1550) rfl rfl rfl (by decide +kernel) ⟨Nat.le_of_ble_eq_true rfl, Nat.le_of_ble_eq_true rfl⟩) ⟨fun a U g mk q => by obtain ⟨q0, q1, qP, qK⟩ := q; exact ⟨q0, q1, qP, va_K.moved (u := U) (U := U.calling g mk a) (Vm.Alike.refl U.vm) qK⟩, va_recv hK hP (ci := 10) (q0 := 0) rfl ((fw_get (by decide)).trans (by rw [mE_obj]; rfl)), fun U hU hW => ⟨rfl, by rw [hU], by rw [hU]; exact hP, va_K.moved hW.alike hK⟩⟩ rfl rfl hl.1 rfl (lv_room (Nat.le_of_ble_eq_true rfl)) dX10_lays_24 ⟨Nat.le_of_ble_eq_true rfl, Nat.le_of_ble_eq_true rfl⟩) hS (fun q _ h => fA_le hS.1 q h) (fA_le hS.1) (fun r9 u9 t9 H1 locs ht9 hvm9 hw9 hB9 hz9 hk9 hS => ?_)
  obtain ⟨μb, rb⟩ := u9
  obtain ⟨hP, -⟩ := hB9
  rw [ht9] at hP
  generalize H1 = H at hP hS ⊢
  obtain ⟨e9, hw9⟩ := hw9
  have e9 : r9 = iZ rb := e9
  subst e9
  simp only at hP hw9
  have hμb := hw9; clear hw9
  exact W.iret (v := iZ (rb)) hx hb hr (fun t9 ht9 hW9 => ⟨⟨iZ (rb), (μb, rb), rfl, ⟨rfl, (by
            dsimp only
            obtain ⟨z1, z2, z3⟩ := hμb
            obtain ⟨z4, z5, z6⟩ := z3.2 ho.1
            have e0 : μa 719 o1.toNat = 0 := by rw [hμa, uz_s]
            rw [e0] at z4 z5 z6
            refine ⟨z1, ⟨by (first | ((try clear e0); (try clear z6); (try clear z4); (try clear z3); (try clear z2); (try clear z1); (try clear hμb); (try clear hz9); (try clear hfa); (try clear hμa); (try clear x); (try clear eμa); (try clear hsz); (try clear s₁); (try clear hC9); (try clear hH9); (try clear h260); (try clear hN); (try clear ho); (try clear hu); (try clear ht); omega) | omega), z6⟩, fr_trans (fr_mono hfa (fun x y h => by unfold LPq PT; (first | ((try clear e0); (try clear z6); (try clear z5); (try clear z4); (try clear z3); (try clear z2); (try clear z1); (try clear hμb); (try clear hz9); (try clear hfa); (try clear hμa); (try clear eμa); (try clear hsz); (try clear s₁); (try clear hC9); (try clear hH9); (try clear h260); (try clear hN); (try clear ho); (try clear hu); (try clear ht); omega) | omega))) (fr_mono z4 (fun x y h => ?_))⟩
            rcases h with h | h
            · exact Or.inl h
            · exact Or.inr (PG_PT h))⟩, by rw [ht9]; exact hP, va_K.moved hW9.alike hK⟩, hS.F ht9⟩) hS.2.2 dX10_lays_27
set_option maxHeartbeats 4000000 in
set_option maxRecDepth 100000 in
theorem m_asIf (l : Launch) (dC : Nat → ClassId) (dI : Nat → Nat → Nat) (cI cZ cII cIII : ClassId) (h0 sz : Nat) (μ : va_M) (pp : Int) (w : Rw) (b : Rw) (hpp : 0 ≤ pp ∧ pp < 8) (hTw : TR μ 0 w) (hB : skB w ∧ rL w ≤ 160) (hTb : TR μ (17 + pp).toNat b) (hPg : rPage b) (hC9 : rN (lrow w b) ≤ 900) (h22 : μ 0 22 = 0 ∨ μ 0 22 = 1) : Met l yX10_asIf (Cond.code yX10_asIf cX10_asIf 2 (some .int) :: wsG) ({ frames := 69, cells := 0, slots := 0, locals := 2355 } : Room) (va_Pc [.ref h0, .int (iZ (pp))] (fun U => U.heap.size = sz ∧ va_P (dC, dI) vwCl (fw (mE cI cZ cII cIII h0) h0 6325 μ) U.heap ∧ va_K (dC, dI) vwCl (mT cI cZ cII cIII) U)) (va_Qi (fun (r9 : Int32) (u : va_M × Int) => r9 = iZ u.2 ∧ (fun (u : va_M) (r : Int) => TR u 53 (asW (μ 0 22) w b) ∧ fr (LPq 53) μ u ∧ 0 ≤ r ∧ r ≤ 400) u.1 u.2) (fun u t => va_P (dC, dI) vwCl (fw (mE cI cZ cII cIII h0) h0 6325 u.1) t.heap ∧ va_K (dC, dI) vwCl (mT cI cZ cII cIII) t) (fA h0 6325 sz)) 0 0 (fA h0 6325 sz) := by
  refine Met.ofW (cc := cX10_asIf) (maxL := 2) (ret := (some .int)) (by decide) rfl ?_
  intro p e s m args below meth c s₁ B hml hv
  obtain ⟨rfl, hsz, hP, hK⟩ := hv
  have hx := B.exec
  have hb := B.bytes
  have hr := B.returns
  have hts : ∀ w ∈ wsG, w.before _ s = true := hG_of (atoms_spec (ws := (Cond.code yX10_asIf cX10_asIf 2 (some .int) :: wsG)) B.pre)
  have hown : s.vm.findClass RX10 = some m.cls := findClass_of_methodNamed B.named
  have hlocks := B.notSynchronized
  subst hsz
  have hS : va_S (fA h0 6325 s.heap.size) s.heap s.heap [] := va_S.rf
  have hl := lv_entry ([.ref h0, .int (iZ (pp))]) (n := 2) (Nat.le_of_ble_eq_true rfl)
  rw [lg_entry_eq]
  generalize (lg_sl ([.ref h0, .int (iZ (pp))]) ++ List.replicate (2 - (lg_sl ([.ref h0, .int (iZ (pp))])).length) Slot.unset).toArray = ls at hl ⊢
  have hl : lv_has ls 2 [(0, .ref h0), (1, .int (iZ (pp)))] := hl
  have hpb := rPage_b hPg
  have hpl := rL_T b hPg.1
  have hpt := hPg.2.2
  obtain ⟨b1_, b2_, b3_, b4_, b5_⟩ := hB.1
  have hbL := hB.2
  refine lv_aload_n hx hb dX10_asIf_0 rfl (lv_at hl 0 rfl) ?_
  refine fz_get (D := (dC, dI)) (ci := 10) (v := .int (iZ (μ 0 22))) (C := RX10) (T := TX10) (N := 53) hx hb hts inG10 hown hK hP (k := 0) (by decide) (F := mF h0) mE_obj rfl 22 (by decide) (hts _ k1188) (fun _ h9 => h9) rfl dX10_asIf_1 ?_
  refine fz_if_eq (tgt := 19) (by constructor <;> (first | ((try clear hbL); (try clear b5_); (try clear b4_); (try clear b3_); (try clear b2_); (try clear b1_); (try clear hpt); (try clear hpl); (try clear hpb); (try clear hsz); (try clear s₁); (try clear hC9); (try clear hB); (try clear hpp); omega) | omega)) hx hb dX10_asIf_4 (by decide) (fun c4_ => ?_) (fun c4_ => ?_)
  · refine lv_aload_n hx hb dX10_asIf_19 rfl (lv_at hl 0 rfl) ?_
    refine lv_bipush (v := iZ 17) hx hb dX10_asIf_20 rfl ?_
    refine lv_iload_n hx hb dX10_asIf_22 rfl (lv_at hl 1 rfl) ?_
    refine lv_iadd hx hb dX10_asIf_23 ?_
    refine lv_topi (fun x9 ex9 => ?_)
    obtain rfl : x9 = iZ (17 + pp) := ex9.trans (iZ_add _ _)
    refine lv_bipush (v := iZ 53) hx hb dX10_asIf_24 rfl ?_
    refine va_callv (va_runV (As := [.int (iZ (17 + pp)), .int (iZ (53))]) (rest := []) ⟨hx, hb, hml, hown, hts⟩ (m_copiesAll l dC dI cI cZ cII cIII h0 s.heap.size μ (17 + pp) (53) (b) (by (first | ((try clear ex9); (try clear c4_); (try clear hbL); (try clear b5_); (try clear b4_); (try clear b3_); (try clear b2_); (try clear b1_); (try clear hpt); (try clear hpl); (try clear hpb); (try clear hsz); (try clear s₁); (try clear h22); (try clear hC9); (try clear hB); omega) | omega)) (by decide) (by (first | ((try clear ex9); (try clear c4_); (try clear hbL); (try clear b5_); (try clear b4_); (try clear b3_); (try clear b2_); (try clear b1_); (try clear hpt); (try clear hpl); (try clear hpb); (try clear hsz); (try clear s₁); (try clear h22); (try clear hC9); (try clear hB); omega) | omega)) (by exact hTb) (by (first | ((try clear ex9); (try clear c4_); (try clear hbL); (try clear b5_); (try clear b4_); (try clear b3_); (try clear b2_); (try clear b1_); (try clear hpt); (try clear hpl); (try clear hsz); (try clear s₁); (try clear h22); (try clear hC9); (try clear hB); (try clear hpp); omega) | omega))) (cwV 2 hts (gV_G k1428 k1430 ks_yX10_copiesAll k13 k1431) rfl rfl rfl (by decide +kernel) ⟨Nat.le_of_ble_eq_true rfl, Nat.le_of_ble_eq_true rfl⟩) ⟨fun a U g mk q => by obtain ⟨q0, q1, qP, qK⟩ := q; exact ⟨q0, q1, qP, va_K.moved (u := U) (U := U.calling g mk a) (Vm.Alike.refl U.vm) qK⟩, va_recv hK hP (ci := 10) (q0 := 0) rfl ((fw_get (by decide)).trans (by rw [mE_obj]; rfl)), fun U hU hW => ⟨rfl, by rw [hU], by rw [hU]; exact hP, va_K.moved hW.alike hK⟩⟩ rfl rfl hl.1 rfl (lv_room (Nat.le_of_ble_eq_true rfl)) dX10_asIf_26 ⟨Nat.le_of_ble_eq_true rfl, Nat.le_of_ble_eq_true rfl⟩) hS (fun q _ h => fA_le hS.1 q h) (fA_le hS.1) (fun u9 t9 H1 locs ht9 hvm9 hw9 hB9 hz9 hk9 hS => ?_)
    obtain ⟨hP, -⟩ := hB9
    rw [ht9] at hP
    generalize H1 = H at hP hS ⊢
    obtain ⟨μ1, eμ1⟩ : ∃ x : va_M, x = u9 := ⟨_, rfl⟩
    rw [← eμ1] at hP hw9
    have hμ1 := hw9; clear hw9
    refine lv_iconst (v := iZ 0) hx hb dX10_asIf_29 rfl ?_
    exact W.iret (v := iZ (0)) hx hb hr (fun t9 ht9 hW9 => ⟨⟨iZ (0), (μ1, 0), rfl, ⟨rfl, (by
                dsimp only
                obtain ⟨z1, z2⟩ := hμ1
                refine ⟨?_, fr_mono z2 (fun x y h => Or.inr h), by (first | ((try clear z2); (try clear z1); (try clear hμ1); (try clear x); (try clear eμ1); (try clear μ1); (try clear hz9); (try clear ex9); (try clear c4_); (try clear hbL); (try clear b5_); (try clear b4_); (try clear b3_); (try clear b2_); (try clear b1_); (try clear hpt); (try clear hpl); (try clear hpb); (try clear hsz); (try clear s₁); (try clear h22); (try clear hC9); (try clear hB); (try clear hpp); omega) | omega), by (first | ((try clear z2); (try clear z1); (try clear hμ1); (try clear x); (try clear eμ1); (try clear μ1); (try clear hz9); (try clear ex9); (try clear c4_); (try clear hbL); (try clear b5_); (try clear b4_); (try clear b3_); (try clear b2_); (try clear b1_); (try clear hpt); (try clear hpl); (try clear hpb); (try clear hsz); (try clear s₁); (try clear h22); (try clear hC9); (try clear hB); (try clear hpp); omega) | omega)⟩
                unfold asW
                rw [if_pos (by (first | ((try clear z2); (try clear z1); (try clear hμ1); (try clear x); (try clear eμ1); (try clear μ1); (try clear hz9); (try clear ex9); (try clear hbL); (try clear b5_); (try clear b4_); (try clear b3_); (try clear b2_); (try clear b1_); (try clear hpt); (try clear hpl); (try clear hpb); (try clear hsz); (try clear s₁); (try clear h22); (try clear hC9); (try clear hB); (try clear hpp); omega) | omega))]
                exact z1)⟩, by rw [ht9]; exact hP, va_K.moved hW9.alike hK⟩, hS.F ht9⟩) hS.2.2 dX10_asIf_30
  · refine lv_aload_n hx hb dX10_asIf_7 rfl (lv_at hl 0 rfl) ?_
    refine lv_iconst (v := iZ 0) hx hb dX10_asIf_8 rfl ?_
    refine lv_bipush (v := iZ 17) hx hb dX10_asIf_9 rfl ?_
    refine lv_iload_n hx hb dX10_asIf_11 rfl (lv_at hl 1 rfl) ?_
    refine lv_iadd hx hb dX10_asIf_12 ?_
    refine lv_topi (fun x9 ex9 => ?_)
    obtain rfl : x9 = iZ (17 + pp) := ex9.trans (iZ_add _ _)
    refine lv_bipush (v := iZ 53) hx hb dX10_asIf_13 rfl ?_
    refine va_calli (va_runV (As := [.int (iZ (0)), .int (iZ (17 + pp)), .int (iZ (53))]) (rest := []) ⟨hx, hb, hml, hown, hts⟩ (m_lays l dC dI cI cZ cII cIII h0 s.heap.size μ (0) (17 + pp) (53) (w) (b) (by decide) (by (first | ((try clear ex9); (try clear c4_); (try clear hbL); (try clear b5_); (try clear b4_); (try clear b3_); (try clear b2_); (try clear b1_); (try clear hpt); (try clear hpl); (try clear hpb); (try clear hsz); (try clear s₁); (try clear h22); (try clear hC9); (try clear hB); omega) | omega)) (by (first | ((try clear ex9); (try clear c4_); (try clear hbL); (try clear b5_); (try clear b4_); (try clear b3_); (try clear b2_); (try clear b1_); (try clear hpt); (try clear hpl); (try clear hpb); (try clear hsz); (try clear s₁); (try clear h22); (try clear hC9); (try clear hB); omega) | omega)) (by exact hTw) (by exact hTb) (by exact b1_) (by exact hPg.1) (by (first | ((try clear ex9); (try clear c4_); (try clear hbL); (try clear b5_); (try clear b4_); (try clear b3_); (try clear b1_); (try clear hpt); (try clear hpl); (try clear hsz); (try clear s₁); (try clear h22); (try clear hC9); (try clear hB); (try clear hpp); omega) | omega)) (by (first | ((try clear ex9); (try clear c4_); (try clear hbL); (try clear b5_); (try clear b3_); (try clear b2_); (try clear b1_); (try clear hpb); (try clear hsz); (try clear s₁); (try clear h22); (try clear hC9); (try clear hpp); omega) | omega)) (by (first | ((try clear ex9); (try clear c4_); (try clear hbL); (try clear b5_); (try clear b4_); (try clear b3_); (try clear b2_); (try clear b1_); (try clear hpt); (try clear hpl); (try clear hsz); (try clear s₁); (try clear h22); (try clear hC9); (try clear hB); (try clear hpp); omega) | omega)) (by exact hC9)) (cwV 3 hts (gV_G k1543 k1545 ks_yX10_lays k13 k1546) rfl rfl rfl (by decide +kernel) ⟨Nat.le_of_ble_eq_true rfl, Nat.le_of_ble_eq_true rfl⟩) ⟨fun a U g mk q => by obtain ⟨q0, q1, qP, qK⟩ := q; exact ⟨q0, q1, qP, va_K.moved (u := U) (U := U.calling g mk a) (Vm.Alike.refl U.vm) qK⟩, va_recv hK hP (ci := 10) (q0 := 0) rfl ((fw_get (by decide)).trans (by rw [mE_obj]; rfl)), fun U hU hW => ⟨rfl, by rw [hU], by rw [hU]; exact hP, va_K.moved hW.alike hK⟩⟩ rfl rfl hl.1 rfl (lv_room (Nat.le_of_ble_eq_true rfl)) dX10_asIf_15 ⟨Nat.le_of_ble_eq_true rfl, Nat.le_of_ble_eq_true rfl⟩) hS (fun q _ h => fA_le hS.1 q h) (fA_le hS.1) (fun r9 u9 t9 H1 locs ht9 hvm9 hw9 hB9 hz9 hk9 hS => ?_)
    obtain ⟨μ2, r3⟩ := u9
    obtain ⟨hP, -⟩ := hB9
    rw [ht9] at hP
    generalize H1 = H at hP hS ⊢
    obtain ⟨e9, hw9⟩ := hw9
    have e9 : r9 = iZ r3 := e9
    subst e9
    simp only at hP hw9
    have hμ2 := hw9; clear hw9
    exact W.iret (v := iZ (r3)) hx hb hr (fun t9 ht9 hW9 => ⟨⟨iZ (r3), (μ2, r3), rfl, ⟨rfl, (by
                dsimp only
                obtain ⟨z1, z2, z3⟩ := hμ2
                have h9 := lay_60 (w := w) (by (first | ((try clear h9); (try clear z3); (try clear z2); (try clear z1); (try clear hμ2); (try clear μ2); (try clear hz9); (try clear ex9); (try clear c4_); (try clear hbL); (try clear b5_); (try clear b4_); (try clear b3_); (try clear b2_); (try clear b1_); (try clear hpt); (try clear hpl); (try clear hpb); (try clear hsz); (try clear s₁); (try clear h22); (try clear hC9); (try clear hpp); omega) | omega)) hPg
                refine ⟨?_, z3, by (first | ((try clear z3); (try clear z2); (try clear hμ2); (try clear μ2); (try clear hz9); (try clear ex9); (try clear c4_); (try clear hbL); (try clear b5_); (try clear b4_); (try clear b3_); (try clear b2_); (try clear b1_); (try clear hpt); (try clear hpl); (try clear hpb); (try clear hsz); (try clear s₁); (try clear h22); (try clear hC9); (try clear hB); (try clear hpp); omega) | omega), by (first | ((try clear z3); (try clear z2); (try clear hμ2); (try clear μ2); (try clear hz9); (try clear ex9); (try clear c4_); (try clear hbL); (try clear b5_); (try clear b4_); (try clear b3_); (try clear b2_); (try clear b1_); (try clear hpt); (try clear hpl); (try clear hpb); (try clear hsz); (try clear s₁); (try clear h22); (try clear hC9); (try clear hB); (try clear hpp); omega) | omega)⟩
                unfold asW
                rw [if_neg (by (first | ((try clear h9); (try clear z3); (try clear z2); (try clear z1); (try clear hμ2); (try clear r3); (try clear μ2); (try clear hz9); (try clear ex9); (try clear hbL); (try clear b5_); (try clear b4_); (try clear b3_); (try clear b2_); (try clear b1_); (try clear hpt); (try clear hpl); (try clear hpb); (try clear hsz); (try clear s₁); (try clear h22); (try clear hC9); (try clear hB); (try clear hpp); omega) | omega))]
                exact z2)⟩, by rw [ht9]; exact hP, va_K.moved hW9.alike hK⟩, hS.F ht9⟩) hS.2.2 dX10_asIf_18
set_option maxHeartbeats 4000000 in
set_option maxRecDepth 100000 in
theorem m_far (l : Launch) (dC : Nat → ClassId) (dI : Nat → Nat → Nat) (cI cZ cII cIII : ClassId) (h0 sz : Nat) (μ : va_M) (pp : Int) (pq : Int) (w : Rw) (b : Rw) (hpp : 0 ≤ pp ∧ pp < 8) (hpq : 0 ≤ pq ∧ pq < 8) (hTw : TR μ (17 + pq).toNat w) (hWg : rPage w) (hTb : TR μ (17 + pp).toNat b) (hPg : rPage b) (hC9 : rN (lrow w b) ≤ 900) : Met l yX10_far (Cond.code yX10_far cX10_far 3 (some .int) :: wsG) ({ frames := 69, cells := 0, slots := 0, locals := 2355 } : Room) (va_Pc [.ref h0, .int (iZ (pp)), .int (iZ (pq))] (fun U => U.heap.size = sz ∧ va_P (dC, dI) vwCl (fw (mE cI cZ cII cIII h0) h0 6325 μ) U.heap ∧ va_K (dC, dI) vwCl (mT cI cZ cII cIII) U)) (va_Qi (fun (r9 : Int32) (u : va_M × Int) => r9 = iZ u.2 ∧ (fun (u : va_M) (r : Int) => fr (LPq 53) μ u ∧ 0 ≤ r ∧ r ≤ 400) u.1 u.2) (fun u t => va_P (dC, dI) vwCl (fw (mE cI cZ cII cIII h0) h0 6325 u.1) t.heap ∧ va_K (dC, dI) vwCl (mT cI cZ cII cIII) t) (fA h0 6325 sz)) 0 0 (fA h0 6325 sz) := by
  refine Met.ofW (cc := cX10_far) (maxL := 3) (ret := (some .int)) (by decide) rfl ?_
  intro p e s m args below meth c s₁ B hml hv
  obtain ⟨rfl, hsz, hP, hK⟩ := hv
  have hx := B.exec
  have hb := B.bytes
  have hr := B.returns
  have hts : ∀ w ∈ wsG, w.before _ s = true := hG_of (atoms_spec (ws := (Cond.code yX10_far cX10_far 3 (some .int) :: wsG)) B.pre)
  have hown : s.vm.findClass RX10 = some m.cls := findClass_of_methodNamed B.named
  have hlocks := B.notSynchronized
  subst hsz
  have hS : va_S (fA h0 6325 s.heap.size) s.heap s.heap [] := va_S.rf
  have hl := lv_entry ([.ref h0, .int (iZ (pp)), .int (iZ (pq))]) (n := 3) (Nat.le_of_ble_eq_true rfl)
  rw [lg_entry_eq]
  generalize (lg_sl ([.ref h0, .int (iZ (pp)), .int (iZ (pq))]) ++ List.replicate (3 - (lg_sl ([.ref h0, .int (iZ (pp)), .int (iZ (pq))])).length) Slot.unset).toArray = ls at hl ⊢
  have hl : lv_has ls 3 [(0, .ref h0), (1, .int (iZ (pp))), (2, .int (iZ (pq)))] := hl
  have hpb := rPage_b hPg
  have hpl := rL_T b hPg.1
  have hpt := hPg.2.2
  have hwb := rPage_b hWg
  have hwl := rL_T w hWg.1
  have hwt := hWg.2.2
  refine lv_aload_n hx hb dX10_far_0 rfl (lv_at hl 0 rfl) ?_
  refine lv_bipush (v := iZ 17) hx hb dX10_far_1 rfl ?_
  refine lv_iload_n hx hb dX10_far_3 rfl (lv_at hl 2 rfl) ?_
  refine lv_iadd hx hb dX10_far_4 ?_
  refine lv_topi (fun x9 ex9 => ?_)
  obtain rfl : x9 = iZ (17 + pq) := ex9.trans (iZ_add _ _)
  refine lv_bipush (v := iZ 17) hx hb dX10_far_5 rfl ?_
  refine lv_iload_n hx hb dX10_far_7 rfl (lv_at hl 1 rfl) ?_
  refine lv_iadd hx hb dX10_far_8 ?_
  refine lv_topi (fun x9 ex9 => ?_)
  obtain rfl : x9 = iZ (17 + pp) := ex9.trans (iZ_add _ _)
  refine lv_bipush (v := iZ 53) hx hb dX10_far_9 rfl ?_
  refine va_calli (va_runV (As := [.int (iZ (17 + pq)), .int (iZ (17 + pp)), .int (iZ (53))]) (rest := []) ⟨hx, hb, hml, hown, hts⟩ (m_lays l dC dI cI cZ cII cIII h0 s.heap.size μ (17 + pq) (17 + pp) (53) (w) (b) (by (first | ((try clear ex9); (try clear hwt); (try clear hwl); (try clear hwb); (try clear hpt); (try clear hpl); (try clear hpb); (try clear hsz); (try clear s₁); (try clear hC9); (try clear hpp); omega) | omega)) (by (first | ((try clear ex9); (try clear hwt); (try clear hwl); (try clear hwb); (try clear hpt); (try clear hpl); (try clear hpb); (try clear hsz); (try clear s₁); (try clear hC9); (try clear hpq); omega) | omega)) (by (first | ((try clear ex9); (try clear hwt); (try clear hwl); (try clear hwb); (try clear hpt); (try clear hpl); (try clear hpb); (try clear hsz); (try clear s₁); (try clear hC9); omega) | omega)) (by exact hTw) (by exact hTb) (by exact hWg.1) (by exact hPg.1) (by (first | ((try clear ex9); (try clear hwt); (try clear hwl); (try clear hpt); (try clear hpl); (try clear hsz); (try clear s₁); (try clear hC9); (try clear hpq); (try clear hpp); omega) | omega)) (by (first | ((try clear ex9); (try clear hpb); (try clear hsz); (try clear s₁); (try clear hC9); (try clear hpq); (try clear hpp); omega) | omega)) (by (first | ((try clear ex9); (try clear hwt); (try clear hwl); (try clear hwb); (try clear hpt); (try clear hpl); (try clear hsz); (try clear s₁); (try clear hC9); (try clear hpq); (try clear hpp); omega) | omega)) (by exact hC9)) (cwV 3 hts (gV_G k1543 k1545 ks_yX10_lays k13 k1546) rfl rfl rfl (by decide +kernel) ⟨Nat.le_of_ble_eq_true rfl, Nat.le_of_ble_eq_true rfl⟩) ⟨fun a U g mk q => by obtain ⟨q0, q1, qP, qK⟩ := q; exact ⟨q0, q1, qP, va_K.moved (u := U) (U := U.calling g mk a) (Vm.Alike.refl U.vm) qK⟩, va_recv hK hP (ci := 10) (q0 := 0) rfl ((fw_get (by decide)).trans (by rw [mE_obj]; rfl)), fun U hU hW => ⟨rfl, by rw [hU], by rw [hU]; exact hP, va_K.moved hW.alike hK⟩⟩ rfl rfl hl.1 rfl (lv_room (Nat.le_of_ble_eq_true rfl)) dX10_far_11 ⟨Nat.le_of_ble_eq_true rfl, Nat.le_of_ble_eq_true rfl⟩) hS (fun q _ h => fA_le hS.1 q h) (fA_le hS.1) (fun r9 u9 t9 H1 locs ht9 hvm9 hw9 hB9 hz9 hk9 hS => ?_)
  obtain ⟨μ1, r2⟩ := u9
  obtain ⟨hP, -⟩ := hB9
  rw [ht9] at hP
  generalize H1 = H at hP hS ⊢
  obtain ⟨e9, hw9⟩ := hw9
  have e9 : r9 = iZ r2 := e9
  subst e9
  simp only at hP hw9
  have hμ1 := hw9; clear hw9
  exact W.iret (v := iZ (r2)) hx hb hr (fun t9 ht9 hW9 => ⟨⟨iZ (r2), (μ1, r2), rfl, ⟨rfl, (by
            dsimp only
            obtain ⟨z1, z2, z3⟩ := hμ1
            have h9 := lay_60 (w := w) (by (first | ((try clear h9); (try clear z3); (try clear z2); (try clear z1); (try clear hμ1); (try clear μ1); (try clear hz9); (try clear ex9); (try clear hwb); (try clear hpt); (try clear hpl); (try clear hpb); (try clear hsz); (try clear s₁); (try clear hC9); (try clear hpq); (try clear hpp); omega) | omega)) hPg
            exact ⟨z3, by (first | ((try clear z3); (try clear z2); (try clear hμ1); (try clear μ1); (try clear hz9); (try clear ex9); (try clear hwt); (try clear hwl); (try clear hwb); (try clear hpt); (try clear hpl); (try clear hpb); (try clear hsz); (try clear s₁); (try clear hC9); (try clear hpq); (try clear hpp); omega) | omega), by (first | ((try clear z3); (try clear z2); (try clear hμ1); (try clear μ1); (try clear hz9); (try clear ex9); (try clear hwt); (try clear hwl); (try clear hwb); (try clear hpt); (try clear hpl); (try clear hpb); (try clear hsz); (try clear s₁); (try clear hC9); (try clear hpq); (try clear hpp); omega) | omega)⟩)⟩, by rw [ht9]; exact hP, va_K.moved hW9.alike hK⟩, hS.F ht9⟩) hS.2.2 dX10_far_14
set_option maxHeartbeats 4000000 in
set_option maxRecDepth 100000 in
theorem m_would (l : Launch) (dC : Nat → ClassId) (dI : Nat → Nat → Nat) (cI cZ cII cIII : ClassId) (h0 sz : Nat) (μ : va_M) (pp : Int) (w : Int) (J : Rw → Prop) (hR : RI J μ) (hJK : JOK J) (hp : inR pp) (hw9 : inR w) : Met l yX10_would (Cond.code yX10_would cX10_would 4 (some .int) :: wsG) ({ frames := 70, cells := 0, slots := 0, locals := 2376 } : Room) (va_Pc [.ref h0, .int (iZ (pp)), .int (iZ (w))] (fun U => U.heap.size = sz ∧ va_P (dC, dI) vwCl (fw (mE cI cZ cII cIII h0) h0 6325 μ) U.heap ∧ va_K (dC, dI) vwCl (mT cI cZ cII cIII) U)) (va_Qi (fun (r9 : Int32) (u : va_M × Int) => r9 = iZ u.2 ∧ (fun (u : va_M) (r : Int) => fr PS μ u ∧ (u 0 0 = 0 ∨ u 0 0 = 1 ∨ u 0 0 = 2)) u.1 u.2) (fun u t => va_P (dC, dI) vwCl (fw (mE cI cZ cII cIII h0) h0 6325 u.1) t.heap ∧ va_K (dC, dI) vwCl (mT cI cZ cII cIII) t) (fA h0 6325 sz)) 0 0 (fA h0 6325 sz) := by
  refine Met.ofW (cc := cX10_would) (maxL := 4) (ret := (some .int)) (by decide) rfl ?_
  intro p e s m args below meth c s₁ B hml hv
  obtain ⟨rfl, hsz, hP, hK⟩ := hv
  have hx := B.exec
  have hb := B.bytes
  have hr := B.returns
  have hts : ∀ w ∈ wsG, w.before _ s = true := hG_of (atoms_spec (ws := (Cond.code yX10_would cX10_would 4 (some .int) :: wsG)) B.pre)
  have hown : s.vm.findClass RX10 = some m.cls := findClass_of_methodNamed B.named
  have hlocks := B.notSynchronized
  subst hsz
  have hS : va_S (fA h0 6325 s.heap.size) s.heap s.heap [] := va_S.rf
  have hl := lv_entry ([.ref h0, .int (iZ (pp)), .int (iZ (w))]) (n := 4) (Nat.le_of_ble_eq_true rfl)
  rw [lg_entry_eq]
  generalize (lg_sl ([.ref h0, .int (iZ (pp)), .int (iZ (w))]) ++ List.replicate (4 - (lg_sl ([.ref h0, .int (iZ (pp)), .int (iZ (w))])).length) Slot.unset).toArray = ls at hl ⊢
  have hl : lv_has ls 4 [(0, .ref h0), (1, .int (iZ (pp))), (2, .int (iZ (w)))] := hl
  have hQ := hR.1
  refine lv_aload_n hx hb dX10_would_0 rfl (lv_at hl 0 rfl) ?_
  refine lv_iconst (v := iZ 0) hx hb dX10_would_1 rfl ?_
  refine fz_put (D := (dC, dI)) (ci := 10) (ty := .int) (z := 0) (C := RX10) (T := TX10) (N := 53) hx hb hts inG10 tyX10 tyX10_ok nmX10 hown hK hP fA_in hS (k := 0) (by decide) (F := mF h0) mE_obj rfl 0 (by decide) (hts _ k1166) (fun _ h9 => h9) rfl (by decide +kernel) rfl rfl (fun _ => Nat.le_of_ble_eq_true rfl) (fun _ _ => rfl) dX10_would_2 (fun H locs hP hS => ?_)
  obtain ⟨μ1, eμ1⟩ : ∃ x : va_M, x = uz μ 0 0 (0) := ⟨_, rfl⟩
  rw [← eμ1] at hP
  have hfr : fr PS μ μ1 := by rw [eμ1]; exact fr_uz fr_rfl (by unfold PS; (first | ((try clear x); (try clear eμ1); (try clear μ1); (try clear hQ); (try clear hsz); (try clear s₁); omega) | omega))
  have ht0 : μ1 0 0 = 0 := by rw [eμ1, uz_s]
  have e10 := hfr 0 10 (PS_n (by (first | ((try clear e10); (try clear ht0); (try clear x); (try clear eμ1); (try clear hQ); (try clear hsz); (try clear s₁); omega) | omega)))
  have e9 := hfr 0 9 (PS_n (by (first | ((try clear e10); (try clear ht0); (try clear x); (try clear eμ1); (try clear hQ); (try clear hsz); (try clear s₁); omega) | omega)))
  have e71 := hfr 719 0 (PS_n (by (first | ((try clear e71); (try clear e10); (try clear ht0); (try clear x); (try clear eμ1); (try clear hQ); (try clear hsz); (try clear s₁); omega) | omega)))
  have hQ1 := RQ_fr hQ hfr
  have hQc := hQ
  obtain ⟨f10, ⟨fT, fTb, fTw⟩, fS3, fPg, fw9, fwB, fwT⟩ := hQc
  obtain ⟨g10, ⟨gT, gTb, gTw⟩, gS3, gPg, gw, gwB, gwT⟩ := hQ1
  have gtk := TR_tok gwT gwB.1 gwB.2.1
  have gt1 := gtk.1
  have gt2 := gtk.2.1
  refine lv_aload_n hx hb dX10_would_5 rfl (lv_at hl 0 rfl) ?_
  refine lv_aload_n hx hb dX10_would_6 rfl (lv_at hl 0 rfl) ?_
  refine lv_iload_n hx hb dX10_would_7 rfl (lv_at hl 1 rfl) ?_
  refine va_calli (va_runV (As := [.int (iZ (pp))]) (rest := [.ref h0]) ⟨hx, hb, hml, hown, hts⟩ (m_isPage l dC dI cI cZ cII cIII h0 H.size μ1 (pp) (by first | assumption | omega | exact ⟨by omega, by omega⟩) (by first | assumption | omega | exact ⟨by omega, by omega⟩)) (cwV 1 hts (gV_G k1588 k1590 ks_yX10_isPage k13 k1591) rfl rfl rfl (by decide +kernel) ⟨Nat.le_of_ble_eq_true rfl, Nat.le_of_ble_eq_true rfl⟩) ⟨fun a U g mk q => by obtain ⟨q0, q1, qP, qK⟩ := q; exact ⟨q0, q1, qP, va_K.moved (u := U) (U := U.calling g mk a) (Vm.Alike.refl U.vm) qK⟩, va_recv hK hP (ci := 10) (q0 := 0) rfl ((fw_get (by decide)).trans (by rw [mE_obj]; rfl)), fun U hU hW => ⟨rfl, by rw [hU], by rw [hU]; exact hP, va_K.moved hW.alike hK⟩⟩ rfl rfl hl.1 rfl (lv_room (Nat.le_of_ble_eq_true rfl)) dX10_would_8 ⟨Nat.le_of_ble_eq_true rfl, Nat.le_of_ble_eq_true rfl⟩) hS (fun q _ h => fA_le hS.1 q h) (fA_le hS.1) (fun r9 u9 t9 H1 locs ht9 hvm9 hw9 hB9 hz9 hk9 hS => ?_)
  obtain ⟨μ2, r3⟩ := u9
  obtain ⟨hP, -⟩ := hB9
  rw [ht9] at hP
  generalize H1 = H at hP hS ⊢
  obtain ⟨e9, hw9⟩ := hw9
  have e9 : r9 = iZ r3 := e9
  subst e9
  simp only at hP hw9
  have hμ2 := hw9; clear hw9
  rw [hμ2.1] at hP; have hμ2 := hμ2.2
  have hip := hμ2
  have hip2 := if_01 hμ2
  refine fz_if_ne (tgt := 18) (by constructor <;> (first | ((try clear hip); (try clear hμ2); (try clear hz9); (try clear gt2); (try clear gt1); (try clear gtk); (try clear gwT); (try clear gwB); (try clear gw); (try clear gPg); (try clear gS3); (try clear gTw); (try clear gTb); (try clear gT); (try clear g10); (try clear fwT); (try clear fwB); (try clear fw9); (try clear fPg); (try clear fS3); (try clear fTw); (try clear fTb); (try clear fT); (try clear f10); (try clear hQc); (try clear hQ1); (try clear e71); (try clear e10); (try clear ht0); (try clear x); (try clear eμ1); (try clear hQ); (try clear hsz); (try clear s₁); omega) | omega)) hx hb dX10_would_11 (by decide) (fun c11_ => ?_) (fun c11_ => ?_)
  · have hpp := if_get hip (by (first | ((try clear hpp); (try clear hip2); (try clear hip); (try clear hμ2); (try clear r3); (try clear μ2); (try clear hz9); (try clear gt2); (try clear gt1); (try clear gtk); (try clear gwT); (try clear gwB); (try clear gw); (try clear gPg); (try clear gS3); (try clear gTw); (try clear gTb); (try clear gT); (try clear g10); (try clear fwT); (try clear fwB); (try clear fw9); (try clear fPg); (try clear fS3); (try clear fTw); (try clear fTb); (try clear fT); (try clear f10); (try clear hQc); (try clear hQ1); (try clear e71); (try clear e10); (try clear ht0); (try clear x); (try clear eμ1); (try clear μ1); (try clear hQ); (try clear hsz); (try clear s₁); omega) | omega))
    refine lv_iconst (v := iZ 0) hx hb dX10_would_18 rfl ?_
    refine lv_iconst (v := iZ 1) hx hb dX10_would_19 rfl ?_
    refine lv_iconst (v := iZ 0) hx hb dX10_would_20 rfl ?_
    refine va_calli (va_runV (As := [.int (iZ (0)), .int (iZ (1)), .int (iZ (0))]) (rest := []) ⟨hx, hb, hml, hown, hts⟩ (m_bad2 l dC dI cI cZ cII cIII h0 H.size μ1 (0) (1) (0) (by first | assumption | (first | ((try clear hpp); (try clear c11_); (try clear hip2); (try clear hip); (try clear hμ2); (try clear μ2); (try clear hz9); (try clear gt2); (try clear gt1); (try clear gtk); (try clear gwT); (try clear gwB); (try clear gw); (try clear gPg); (try clear gS3); (try clear gTw); (try clear gTb); (try clear gT); (try clear g10); (try clear fwT); (try clear fwB); (try clear fw9); (try clear fPg); (try clear fS3); (try clear fTw); (try clear fTb); (try clear fT); (try clear f10); (try clear hQc); (try clear hQ1); (try clear e71); (try clear e10); (try clear ht0); (try clear x); (try clear eμ1); (try clear hQ); (try clear hsz); (try clear s₁); omega) | omega) | exact ⟨by omega, by omega⟩) (by first | assumption | (first | ((try clear hpp); (try clear c11_); (try clear hip2); (try clear hip); (try clear hμ2); (try clear μ2); (try clear hz9); (try clear gt2); (try clear gt1); (try clear gtk); (try clear gwT); (try clear gwB); (try clear gw); (try clear gPg); (try clear gS3); (try clear gTw); (try clear gTb); (try clear gT); (try clear g10); (try clear fwT); (try clear fwB); (try clear fw9); (try clear fPg); (try clear fS3); (try clear fTw); (try clear fTb); (try clear fT); (try clear f10); (try clear hQc); (try clear hQ1); (try clear e71); (try clear e10); (try clear ht0); (try clear x); (try clear eμ1); (try clear hQ); (try clear hsz); (try clear s₁); omega) | omega) | exact ⟨by omega, by omega⟩) (by first | assumption | (first | ((try clear hpp); (try clear c11_); (try clear hip2); (try clear hip); (try clear hμ2); (try clear μ2); (try clear hz9); (try clear gt2); (try clear gt1); (try clear gtk); (try clear gwT); (try clear gwB); (try clear gw); (try clear gPg); (try clear gS3); (try clear gTw); (try clear gTb); (try clear gT); (try clear g10); (try clear fwT); (try clear fwB); (try clear fw9); (try clear fPg); (try clear fS3); (try clear fTw); (try clear fTb); (try clear fT); (try clear f10); (try clear hQc); (try clear hQ1); (try clear e71); (try clear e10); (try clear ht0); (try clear x); (try clear eμ1); (try clear hQ); (try clear hsz); (try clear s₁); omega) | omega) | exact ⟨by omega, by omega⟩) (by first | assumption | omega | exact ⟨by omega, by omega⟩)) (cwV 3 hts (gV_G k1342 k1344 ks_yX10_bad k13 k1345) rfl rfl rfl (by decide +kernel) ⟨Nat.le_of_ble_eq_true rfl, Nat.le_of_ble_eq_true rfl⟩) ⟨fun a U g mk q => by obtain ⟨q0, q1, qP, qK⟩ := q; exact ⟨q0, q1, qP, va_K.moved (u := U) (U := U.calling g mk a) (Vm.Alike.refl U.vm) qK⟩, va_recv hK hP (ci := 10) (q0 := 0) rfl ((fw_get (by decide)).trans (by rw [mE_obj]; rfl)), fun U hU hW => ⟨rfl, by rw [hU], by rw [hU]; exact hP, va_K.moved hW.alike hK⟩⟩ rfl rfl hl.1 rfl (lv_room (Nat.le_of_ble_eq_true rfl)) dX10_would_21 ⟨Nat.le_of_ble_eq_true rfl, Nat.le_of_ble_eq_true rfl⟩) hS (fun q _ h => fA_le hS.1 q h) (fA_le hS.1) (fun r9 u9 t9 H1 locs ht9 hvm9 hw9 hB9 hz9 hk9 hS => ?_)
    obtain ⟨μ4, r5⟩ := u9
    obtain ⟨hP, -⟩ := hB9
    rw [ht9] at hP
    generalize H1 = H at hP hS ⊢
    obtain ⟨e9, hw9⟩ := hw9
    have e9 : r9 = iZ r5 := e9
    subst e9
    simp only at hP hw9
    have hμ4 := hw9; clear hw9
    have hfr := fr_trans hfr (badP_fr hμ4)
    have hrb := badP_r hμ4
    obtain rfl : r5 = 0 := by (first | ((try clear hfr); (try clear hμ4); (try clear hz9); (try clear hpp); (try clear c11_); (try clear hip2); (try clear hip); (try clear hμ2); (try clear μ2); (try clear gt2); (try clear gt1); (try clear gtk); (try clear gwT); (try clear gwB); (try clear gw); (try clear gPg); (try clear gS3); (try clear gTw); (try clear gTb); (try clear gT); (try clear g10); (try clear fwT); (try clear fwB); (try clear fw9); (try clear fPg); (try clear fS3); (try clear fTw); (try clear fTb); (try clear fT); (try clear f10); (try clear hQc); (try clear hQ1); (try clear e71); (try clear e10); (try clear ht0); (try clear x); (try clear eμ1); (try clear hQ); (try clear hsz); (try clear s₁); omega) | omega)
    refine fz_if_ne (tgt := 50) (by decide) hx hb dX10_would_24 (by decide) (fun h9 => absurd h9 (by decide)) (fun c24_ => ?_)
    refine lv_aload_n hx hb dX10_would_27 rfl (lv_at hl 0 rfl) ?_
    refine lv_iload_n hx hb dX10_would_28 rfl (lv_at hl 2 rfl) ?_
    refine lv_iconst (v := iZ 0) hx hb dX10_would_29 rfl ?_
    refine lv_iconst (v := iZ 2) hx hb dX10_would_30 rfl ?_
    refine va_calli (va_runS (As := [.int (iZ (w)), .int (iZ (0)), .int (iZ (2))]) (rest := [.ref h0]) ⟨hx, hb, hml, hown, hts⟩ (m_in l dC dI cI cZ cII cIII h0 H.size μ4 (w) (0) (2) (by first | assumption | omega | exact ⟨by omega, by omega⟩) (by first | assumption | (first | ((try clear c24_); (try clear hrb); (try clear hfr); (try clear hμ4); (try clear r5); (try clear μ4); (try clear hz9); (try clear hpp); (try clear c11_); (try clear hip2); (try clear hip); (try clear hμ2); (try clear μ2); (try clear gt2); (try clear gt1); (try clear gtk); (try clear gwT); (try clear gwB); (try clear gw); (try clear gPg); (try clear gS3); (try clear gTw); (try clear gTb); (try clear gT); (try clear g10); (try clear fwT); (try clear fwB); (try clear fw9); (try clear fPg); (try clear fS3); (try clear fTw); (try clear fTb); (try clear fT); (try clear f10); (try clear hQc); (try clear hQ1); (try clear e71); (try clear e10); (try clear ht0); (try clear x); (try clear eμ1); (try clear hQ); (try clear hsz); (try clear s₁); omega) | omega) | exact ⟨by omega, by omega⟩) (by first | assumption | (first | ((try clear c24_); (try clear hrb); (try clear hfr); (try clear hμ4); (try clear r5); (try clear μ4); (try clear hz9); (try clear hpp); (try clear c11_); (try clear hip2); (try clear hip); (try clear hμ2); (try clear μ2); (try clear gt2); (try clear gt1); (try clear gtk); (try clear gwT); (try clear gwB); (try clear gw); (try clear gPg); (try clear gS3); (try clear gTw); (try clear gTb); (try clear gT); (try clear g10); (try clear fwT); (try clear fwB); (try clear fw9); (try clear fPg); (try clear fS3); (try clear fTw); (try clear fTb); (try clear fT); (try clear f10); (try clear hQc); (try clear hQ1); (try clear e71); (try clear e10); (try clear ht0); (try clear x); (try clear eμ1); (try clear hQ); (try clear hsz); (try clear s₁); omega) | omega) | exact ⟨by omega, by omega⟩)) (cwS 3 hts (gS_G k1339 k1340 k13 k1341) rfl rfl rfl (by decide +kernel) ⟨Nat.le_of_ble_eq_true rfl, Nat.le_of_ble_eq_true rfl⟩) ⟨fun a U g mk q => by obtain ⟨q0, q1, qP, qK⟩ := q; exact ⟨q0, q1, qP, va_K.moved (u := U) (U := U.calling g mk a) (Vm.Alike.refl U.vm) qK⟩, fun U hU hW => ⟨rfl, by rw [hU], by rw [hU]; exact hP, va_K.moved hW.alike hK⟩⟩ rfl rfl hl.1 rfl (lv_room (Nat.le_of_ble_eq_true rfl)) dX10_would_31 ⟨Nat.le_of_ble_eq_true rfl, Nat.le_of_ble_eq_true rfl⟩) hS (fun q _ h => fA_le hS.1 q h) (fA_le hS.1) (fun r9 u9 t9 H1 locs ht9 hvm9 hw9 hB9 hz9 hk9 hS => ?_)
    obtain ⟨μ6, r7⟩ := u9
    obtain ⟨hP, -⟩ := hB9
    rw [ht9] at hP
    generalize H1 = H at hP hS ⊢
    obtain ⟨e9, hw9⟩ := hw9
    have e9 : r9 = iZ r7 := e9
    subst e9
    simp only at hP hw9
    have hμ6 := hw9; clear hw9
    rw [hμ6.1] at hP; have hμ6 := hμ6.2
    have hin := hμ6
    have hin2 := if_01 hμ6
    refine fz_if_ne (tgt := 41) (by constructor <;> (first | ((try clear hin); (try clear hμ6); (try clear hz9); (try clear c24_); (try clear hrb); (try clear hfr); (try clear hμ4); (try clear r5); (try clear hpp); (try clear c11_); (try clear hip2); (try clear hip); (try clear hμ2); (try clear μ2); (try clear gt2); (try clear gt1); (try clear gtk); (try clear gwT); (try clear gwB); (try clear gw); (try clear gPg); (try clear gS3); (try clear gTw); (try clear gTb); (try clear gT); (try clear g10); (try clear fwT); (try clear fwB); (try clear fw9); (try clear fPg); (try clear fS3); (try clear fTw); (try clear fTb); (try clear fT); (try clear f10); (try clear hQc); (try clear hQ1); (try clear e71); (try clear e10); (try clear ht0); (try clear x); (try clear eμ1); (try clear hQ); (try clear hsz); (try clear s₁); omega) | omega)) hx hb dX10_would_34 (by decide) (fun c34_ => ?_) (fun c34_ => ?_)
    · refine lv_iconst (v := iZ 0) hx hb dX10_would_41 rfl ?_
      refine lv_iconst (v := iZ 2) hx hb dX10_would_42 rfl ?_
      refine lv_iconst (v := iZ 1) hx hb dX10_would_43 rfl ?_
      refine va_calli (va_runV (As := [.int (iZ (0)), .int (iZ (2)), .int (iZ (1))]) (rest := []) ⟨hx, hb, hml, hown, hts⟩ (m_bad2 l dC dI cI cZ cII cIII h0 H.size μ4 (0) (2) (1) (by first | assumption | (first | ((try clear c34_); (try clear hin2); (try clear hin); (try clear hμ6); (try clear μ6); (try clear hz9); (try clear c24_); (try clear hrb); (try clear hfr); (try clear hμ4); (try clear r5); (try clear μ4); (try clear hpp); (try clear c11_); (try clear hip2); (try clear hip); (try clear hμ2); (try clear μ2); (try clear gt2); (try clear gt1); (try clear gtk); (try clear gwT); (try clear gwB); (try clear gw); (try clear gPg); (try clear gS3); (try clear gTw); (try clear gTb); (try clear gT); (try clear g10); (try clear fwT); (try clear fwB); (try clear fw9); (try clear fPg); (try clear fS3); (try clear fTw); (try clear fTb); (try clear fT); (try clear f10); (try clear hQc); (try clear hQ1); (try clear e71); (try clear e10); (try clear ht0); (try clear x); (try clear eμ1); (try clear hQ); (try clear hsz); (try clear s₁); omega) | omega) | exact ⟨by omega, by omega⟩) (by first | assumption | (first | ((try clear c34_); (try clear hin2); (try clear hin); (try clear hμ6); (try clear μ6); (try clear hz9); (try clear c24_); (try clear hrb); (try clear hfr); (try clear hμ4); (try clear r5); (try clear μ4); (try clear hpp); (try clear c11_); (try clear hip2); (try clear hip); (try clear hμ2); (try clear μ2); (try clear gt2); (try clear gt1); (try clear gtk); (try clear gwT); (try clear gwB); (try clear gw); (try clear gPg); (try clear gS3); (try clear gTw); (try clear gTb); (try clear gT); (try clear g10); (try clear fwT); (try clear fwB); (try clear fw9); (try clear fPg); (try clear fS3); (try clear fTw); (try clear fTb); (try clear fT); (try clear f10); (try clear hQc); (try clear hQ1); (try clear e71); (try clear e10); (try clear ht0); (try clear x); (try clear eμ1); (try clear hQ); (try clear hsz); (try clear s₁); omega) | omega) | exact ⟨by omega, by omega⟩) (by first | assumption | (first | ((try clear c34_); (try clear hin2); (try clear hin); (try clear hμ6); (try clear μ6); (try clear hz9); (try clear c24_); (try clear hrb); (try clear hfr); (try clear hμ4); (try clear r5); (try clear μ4); (try clear hpp); (try clear c11_); (try clear hip2); (try clear hip); (try clear hμ2); (try clear μ2); (try clear gt2); (try clear gt1); (try clear gtk); (try clear gwT); (try clear gwB); (try clear gw); (try clear gPg); (try clear gS3); (try clear gTw); (try clear gTb); (try clear gT); (try clear g10); (try clear fwT); (try clear fwB); (try clear fw9); (try clear fPg); (try clear fS3); (try clear fTw); (try clear fTb); (try clear fT); (try clear f10); (try clear hQc); (try clear hQ1); (try clear e71); (try clear e10); (try clear ht0); (try clear x); (try clear eμ1); (try clear hQ); (try clear hsz); (try clear s₁); omega) | omega) | exact ⟨by omega, by omega⟩) (by first | assumption | (first | ((try clear hin); (try clear hμ6); (try clear hz9); (try clear c24_); (try clear hfr); (try clear hμ4); (try clear r5); (try clear hpp); (try clear c11_); (try clear hip2); (try clear hip); (try clear hμ2); (try clear μ2); (try clear gt2); (try clear gt1); (try clear gtk); (try clear gwT); (try clear gwB); (try clear gw); (try clear gPg); (try clear gS3); (try clear gTw); (try clear gTb); (try clear gT); (try clear g10); (try clear fwT); (try clear fwB); (try clear fw9); (try clear fPg); (try clear fS3); (try clear fTw); (try clear fTb); (try clear fT); (try clear f10); (try clear hQc); (try clear hQ1); (try clear e71); (try clear e10); (try clear x); (try clear eμ1); (try clear hQ); (try clear hsz); (try clear s₁); omega) | omega) | exact ⟨by omega, by omega⟩)) (cwV 3 hts (gV_G k1342 k1344 ks_yX10_bad k13 k1345) rfl rfl rfl (by decide +kernel) ⟨Nat.le_of_ble_eq_true rfl, Nat.le_of_ble_eq_true rfl⟩) ⟨fun a U g mk q => by obtain ⟨q0, q1, qP, qK⟩ := q; exact ⟨q0, q1, qP, va_K.moved (u := U) (U := U.calling g mk a) (Vm.Alike.refl U.vm) qK⟩, va_recv hK hP (ci := 10) (q0 := 0) rfl ((fw_get (by decide)).trans (by rw [mE_obj]; rfl)), fun U hU hW => ⟨rfl, by rw [hU], by rw [hU]; exact hP, va_K.moved hW.alike hK⟩⟩ rfl rfl hl.1 rfl (lv_room (Nat.le_of_ble_eq_true rfl)) dX10_would_44 ⟨Nat.le_of_ble_eq_true rfl, Nat.le_of_ble_eq_true rfl⟩) hS (fun q _ h => fA_le hS.1 q h) (fA_le hS.1) (fun r9 u9 t9 H1 locs ht9 hvm9 hw9 hB9 hz9 hk9 hS => ?_)
      obtain ⟨μ8, r10⟩ := u9
      obtain ⟨hP, -⟩ := hB9
      rw [ht9] at hP
      generalize H1 = H at hP hS ⊢
      obtain ⟨e9, hw9⟩ := hw9
      have e9 : r9 = iZ r10 := e9
      subst e9
      simp only at hP hw9
      have hμ8 := hw9; clear hw9
      have hfr := fr_trans hfr (badP_fr hμ8)
      have hrb := badP_r hμ8
      obtain rfl : r10 = 0 := by (first | ((try clear hfr); (try clear hμ8); (try clear hz9); (try clear c34_); (try clear hin2); (try clear hin); (try clear hμ6); (try clear μ6); (try clear c24_); (try clear hμ4); (try clear r5); (try clear hpp); (try clear c11_); (try clear hip2); (try clear hip); (try clear hμ2); (try clear μ2); (try clear gt2); (try clear gt1); (try clear gtk); (try clear gwT); (try clear gwB); (try clear gw); (try clear gPg); (try clear gS3); (try clear gTw); (try clear gTb); (try clear gT); (try clear g10); (try clear fwT); (try clear fwB); (try clear fw9); (try clear fPg); (try clear fS3); (try clear fTw); (try clear fTb); (try clear fT); (try clear f10); (try clear hQc); (try clear hQ1); (try clear e71); (try clear e10); (try clear ht0); (try clear x); (try clear eμ1); (try clear hQ); (try clear hsz); (try clear s₁); omega) | omega)
      refine fz_if_eq (tgt := 52) (by decide) hx hb dX10_would_47 (by decide) (fun c47_ => ?_) (fun h9 => absurd h9 (by decide))
      have hQ2 := RQ_fr hQ hfr
      obtain ⟨k10, ⟨kT, kTb, kTw⟩, kS3, kPg, kw, kwB, kwT⟩ := hQ2
      have e10k := hfr 0 10 (PS_n (by (first | ((try clear e10k); (try clear kwT); (try clear kwB); (try clear kw); (try clear kPg); (try clear kS3); (try clear kTw); (try clear kTb); (try clear kT); (try clear k10); (try clear hQ2); (try clear c47_); (try clear hrb); (try clear hfr); (try clear hμ8); (try clear r10); (try clear hz9); (try clear c34_); (try clear hin2); (try clear hin); (try clear hμ6); (try clear μ6); (try clear c24_); (try clear hμ4); (try clear r5); (try clear μ4); (try clear hpp); (try clear c11_); (try clear hip2); (try clear hip); (try clear hμ2); (try clear μ2); (try clear gt2); (try clear gt1); (try clear gtk); (try clear gwT); (try clear gwB); (try clear gw); (try clear gPg); (try clear gS3); (try clear gTw); (try clear gTb); (try clear gT); (try clear g10); (try clear fwT); (try clear fwB); (try clear fw9); (try clear fPg); (try clear fS3); (try clear fTw); (try clear fTb); (try clear fT); (try clear f10); (try clear hQc); (try clear hQ1); (try clear e71); (try clear e10); (try clear ht0); (try clear x); (try clear eμ1); (try clear hQ); (try clear hsz); (try clear s₁); omega) | omega)))
      have e9k := hfr 0 9 (PS_n (by (first | ((try clear e9k); (try clear e10k); (try clear kwT); (try clear kwB); (try clear kw); (try clear kPg); (try clear kS3); (try clear kTw); (try clear kTb); (try clear kT); (try clear k10); (try clear hQ2); (try clear c47_); (try clear hrb); (try clear hfr); (try clear hμ8); (try clear r10); (try clear hz9); (try clear c34_); (try clear hin2); (try clear hin); (try clear hμ6); (try clear μ6); (try clear c24_); (try clear hμ4); (try clear r5); (try clear μ4); (try clear hpp); (try clear c11_); (try clear hip2); (try clear hip); (try clear hμ2); (try clear μ2); (try clear gt2); (try clear gt1); (try clear gtk); (try clear gwT); (try clear gwB); (try clear gw); (try clear gPg); (try clear gS3); (try clear gTw); (try clear gTb); (try clear gT); (try clear g10); (try clear fwT); (try clear fwB); (try clear fw9); (try clear fPg); (try clear fS3); (try clear fTw); (try clear fTb); (try clear fT); (try clear f10); (try clear hQc); (try clear hQ1); (try clear e71); (try clear e10); (try clear ht0); (try clear x); (try clear eμ1); (try clear hQ); (try clear hsz); (try clear s₁); omega) | omega)))
      have e71k := hfr 719 0 (PS_n (by (first | ((try clear e71k); (try clear e9k); (try clear e10k); (try clear kwT); (try clear kwB); (try clear kw); (try clear kPg); (try clear kS3); (try clear kTw); (try clear kTb); (try clear kT); (try clear k10); (try clear hQ2); (try clear c47_); (try clear hrb); (try clear hfr); (try clear hμ8); (try clear r10); (try clear hz9); (try clear c34_); (try clear hin2); (try clear hin); (try clear hμ6); (try clear μ6); (try clear c24_); (try clear hμ4); (try clear r5); (try clear μ4); (try clear hpp); (try clear c11_); (try clear hip2); (try clear hip); (try clear hμ2); (try clear μ2); (try clear gt2); (try clear gt1); (try clear gtk); (try clear gwT); (try clear gwB); (try clear gw); (try clear gPg); (try clear gS3); (try clear gTw); (try clear gTb); (try clear gT); (try clear g10); (try clear fwT); (try clear fwB); (try clear fw9); (try clear fPg); (try clear fS3); (try clear fTw); (try clear fTb); (try clear fT); (try clear f10); (try clear hQc); (try clear hQ1); (try clear e71); (try clear e10); (try clear ht0); (try clear x); (try clear eμ1); (try clear hQ); (try clear hsz); (try clear s₁); omega) | omega)))
      have ktk := TR_tok kwT kwB.1 kwB.2.1
      have kt1 := ktk.1
      have kt2 := ktk.2.1
      have hR2 := RI_PS hR hfr
      obtain ⟨-, ⟨sw, sw1, sw2, sw3⟩, sbk⟩ := hR2
      have sB := hJK.2.1 sw sw1
      obtain ⟨p1, p2, p3, pw, pw1, pw2, pw3⟩ := kPg pp.toNat (by (first | ((try clear pw3); (try clear pw2); (try clear pw1); (try clear pw); (try clear p3); (try clear p2); (try clear p1); (try clear sB); (try clear sbk); (try clear sw3); (try clear sw2); (try clear sw1); (try clear hR2); (try clear kt2); (try clear kt1); (try clear ktk); (try clear e71k); (try clear e9k); (try clear kwT); (try clear kwB); (try clear kw); (try clear kPg); (try clear kS3); (try clear kTw); (try clear kTb); (try clear kT); (try clear hQ2); (try clear c47_); (try clear hrb); (try clear hfr); (try clear hμ8); (try clear r10); (try clear hz9); (try clear c34_); (try clear hin2); (try clear hin); (try clear hμ6); (try clear μ6); (try clear c24_); (try clear hμ4); (try clear r5); (try clear μ4); (try clear c11_); (try clear hip2); (try clear hip); (try clear hμ2); (try clear μ2); (try clear gt2); (try clear gt1); (try clear gtk); (try clear gwT); (try clear gwB); (try clear gw); (try clear gPg); (try clear gS3); (try clear gTw); (try clear gTb); (try clear gT); (try clear g10); (try clear fwT); (try clear fwB); (try clear fw9); (try clear fPg); (try clear fS3); (try clear fTw); (try clear fTb); (try clear fT); (try clear f10); (try clear hQc); (try clear hQ1); (try clear e71); (try clear ht0); (try clear x); (try clear eμ1); (try clear hQ); (try clear hsz); (try clear s₁); omega) | omega))
      have pTR : TR μ8 (17 + pp).toNat pw := by rw [show (17 + pp).toNat = 17 + pp.toNat by (first | ((try clear pw3); (try clear pw2); (try clear pw1); (try clear p3); (try clear p2); (try clear p1); (try clear sB); (try clear sbk); (try clear sw3); (try clear sw2); (try clear sw1); (try clear hR2); (try clear kt2); (try clear kt1); (try clear ktk); (try clear e71k); (try clear e9k); (try clear e10k); (try clear kwT); (try clear kwB); (try clear kw); (try clear kPg); (try clear kS3); (try clear kTw); (try clear kTb); (try clear kT); (try clear k10); (try clear hQ2); (try clear c47_); (try clear hrb); (try clear hfr); (try clear hμ8); (try clear r10); (try clear hz9); (try clear c34_); (try clear hin2); (try clear hin); (try clear hμ6); (try clear μ6); (try clear c24_); (try clear hμ4); (try clear r5); (try clear μ4); (try clear c11_); (try clear hip2); (try clear hip); (try clear hμ2); (try clear μ2); (try clear gt2); (try clear gt1); (try clear gtk); (try clear gwT); (try clear gwB); (try clear gw); (try clear gPg); (try clear gS3); (try clear gTw); (try clear gTb); (try clear gT); (try clear g10); (try clear fwT); (try clear fwB); (try clear fw9); (try clear fPg); (try clear fS3); (try clear fTw); (try clear fTb); (try clear fT); (try clear f10); (try clear hQc); (try clear hQ1); (try clear e71); (try clear e10); (try clear ht0); (try clear x); (try clear eμ1); (try clear hQ); (try clear hsz); (try clear s₁); omega) | omega)]; exact pw3
      have aJ := asW_J hJK (f := μ8 0 22) sw1 pw1 pw2
      have lJ := (hJK.2.2.2.1 sw pw sw1 pw1 pw2).1.2.1
      refine lv_aload_n hx hb dX10_would_52 rfl (lv_at hl 0 rfl) ?_
      refine lv_iload_n hx hb dX10_would_53 rfl (lv_at hl 1 rfl) ?_
      refine va_calli (va_runV (As := [.int (iZ (pp))]) (rest := []) ⟨hx, hb, hml, hown, hts⟩ (m_asIf l dC dI cI cZ cII cIII h0 H.size μ8 (pp) (sw) (pw) (by (first | ((try clear lJ); (try clear aJ); (try clear pw3); (try clear pw2); (try clear pw1); (try clear p3); (try clear p2); (try clear p1); (try clear sB); (try clear sbk); (try clear sw3); (try clear sw2); (try clear sw1); (try clear hR2); (try clear kt2); (try clear kt1); (try clear ktk); (try clear e71k); (try clear e9k); (try clear kwT); (try clear kwB); (try clear kw); (try clear kPg); (try clear kS3); (try clear kTw); (try clear kTb); (try clear kT); (try clear hQ2); (try clear c47_); (try clear hrb); (try clear hfr); (try clear hμ8); (try clear r10); (try clear hz9); (try clear c34_); (try clear hin2); (try clear hin); (try clear hμ6); (try clear μ6); (try clear c24_); (try clear hμ4); (try clear r5); (try clear μ4); (try clear c11_); (try clear hip2); (try clear hip); (try clear hμ2); (try clear μ2); (try clear gt2); (try clear gt1); (try clear gtk); (try clear gwT); (try clear gwB); (try clear gw); (try clear gPg); (try clear gS3); (try clear gTw); (try clear gTb); (try clear gT); (try clear g10); (try clear fwT); (try clear fwB); (try clear fw9); (try clear fPg); (try clear fS3); (try clear fTw); (try clear fTb); (try clear fT); (try clear f10); (try clear hQc); (try clear hQ1); (try clear e71); (try clear ht0); (try clear x); (try clear eμ1); (try clear hQ); (try clear hsz); (try clear s₁); omega) | omega)) (by exact sw3) (by exact sB) (by exact pTR) (by exact pw1) (by exact lJ) (by exact sbk.2.1)) (cwV 1 hts (gV_G k1539 k1541 ks_yX10_asIf k13 k1542) rfl rfl rfl (by decide +kernel) ⟨Nat.le_of_ble_eq_true rfl, Nat.le_of_ble_eq_true rfl⟩) ⟨fun a U g mk q => by obtain ⟨q0, q1, qP, qK⟩ := q; exact ⟨q0, q1, qP, va_K.moved (u := U) (U := U.calling g mk a) (Vm.Alike.refl U.vm) qK⟩, va_recv hK hP (ci := 10) (q0 := 0) rfl ((fw_get (by decide)).trans (by rw [mE_obj]; rfl)), fun U hU hW => ⟨rfl, by rw [hU], by rw [hU]; exact hP, va_K.moved hW.alike hK⟩⟩ rfl rfl hl.1 rfl (lv_room (Nat.le_of_ble_eq_true rfl)) dX10_would_54 ⟨Nat.le_of_ble_eq_true rfl, Nat.le_of_ble_eq_true rfl⟩) hS (fun q _ h => fA_le hS.1 q h) (fA_le hS.1) (fun r9 u9 t9 H1 locs ht9 hvm9 hw9 hB9 hz9 hk9 hS => ?_)
      obtain ⟨μz, rz⟩ := u9
      obtain ⟨hP, -⟩ := hB9
      rw [ht9] at hP
      generalize H1 = H at hP hS ⊢
      obtain ⟨e9, hw9⟩ := hw9
      have e9 : r9 = iZ rz := e9
      subst e9
      simp only at hP hw9
      have hμz := hw9; clear hw9
      obtain ⟨y1, y2, y3, y4⟩ := hμz
      have hfr := fr_trans hfr (fr_mono y2 (fun x y h => LPq_PS h))
      have h00z : μz 0 0 = _ := y2 0 0 (by unfold LPq LD PT; (first | ((try clear h00z); (try clear hfr); (try clear y4); (try clear y3); (try clear y2); (try clear y1); (try clear hμz); (try clear μz); (try clear hz9); (try clear lJ); (try clear aJ); (try clear pw3); (try clear pw2); (try clear pw1); (try clear p3); (try clear p2); (try clear p1); (try clear sB); (try clear sbk); (try clear sw3); (try clear sw2); (try clear sw1); (try clear hR2); (try clear kt2); (try clear kt1); (try clear ktk); (try clear e71k); (try clear e9k); (try clear e10k); (try clear kwT); (try clear kwB); (try clear kw); (try clear kPg); (try clear kS3); (try clear kTw); (try clear kTb); (try clear kT); (try clear k10); (try clear hQ2); (try clear c47_); (try clear hrb); (try clear hμ8); (try clear r10); (try clear c34_); (try clear hin2); (try clear hin); (try clear hμ6); (try clear μ6); (try clear c24_); (try clear hμ4); (try clear r5); (try clear μ4); (try clear hpp); (try clear c11_); (try clear hip2); (try clear hip); (try clear hμ2); (try clear μ2); (try clear gt2); (try clear gt1); (try clear gtk); (try clear gwT); (try clear gwB); (try clear gw); (try clear gPg); (try clear gS3); (try clear gTw); (try clear gTb); (try clear gT); (try clear g10); (try clear fwT); (try clear fwB); (try clear fw9); (try clear fPg); (try clear fS3); (try clear fTw); (try clear fTb); (try clear fT); (try clear f10); (try clear hQc); (try clear hQ1); (try clear e71); (try clear e10); (try clear ht0); (try clear x); (try clear eμ1); (try clear hQ); (try clear hsz); (try clear s₁); omega) | omega))
      have ytk := TR_tok y1 aJ.1.1 aJ.1.2.1
      refine lv_istore_n (lv' := [(3, .int (iZ (rz))), (0, .ref h0), (1, .int (iZ (pp))), (2, .int (iZ (w)))]) hx hb dX10_would_57 rfl hl (by decide) rfl (fun ls hl => ?_)
      refine lv_iload_n hx hb dX10_would_58 rfl (lv_at hl 3 rfl) ?_
      refine fz_if_ne (tgt := 66) (by constructor <;> (first | ((try clear ytk); (try clear h00z); (try clear hfr); (try clear y4); (try clear y3); (try clear y2); (try clear y1); (try clear hμz); (try clear hz9); (try clear lJ); (try clear aJ); (try clear pw3); (try clear pw2); (try clear pw1); (try clear p3); (try clear p2); (try clear p1); (try clear sB); (try clear sbk); (try clear sw3); (try clear sw2); (try clear sw1); (try clear hR2); (try clear kt2); (try clear kt1); (try clear ktk); (try clear e71k); (try clear e9k); (try clear e10k); (try clear kwT); (try clear kwB); (try clear kw); (try clear kPg); (try clear kS3); (try clear kTw); (try clear kTb); (try clear kT); (try clear k10); (try clear hQ2); (try clear c47_); (try clear hrb); (try clear hμ8); (try clear r10); (try clear c34_); (try clear hin2); (try clear hin); (try clear hμ6); (try clear μ6); (try clear c24_); (try clear hμ4); (try clear r5); (try clear μ4); (try clear hpp); (try clear c11_); (try clear hip2); (try clear hip); (try clear hμ2); (try clear μ2); (try clear gt2); (try clear gt1); (try clear gtk); (try clear gwT); (try clear gwB); (try clear gw); (try clear gPg); (try clear gS3); (try clear gTw); (try clear gTb); (try clear gT); (try clear g10); (try clear fwT); (try clear fwB); (try clear fw9); (try clear fPg); (try clear fS3); (try clear fTw); (try clear fTb); (try clear fT); (try clear f10); (try clear hQc); (try clear hQ1); (try clear e71); (try clear e10); (try clear ht0); (try clear x); (try clear eμ1); (try clear hQ); (try clear hsz); (try clear s₁); omega) | omega)) hx hb dX10_would_59 (by decide) (fun c59_ => ?_) (fun c59_ => ?_)
      · refine lv_iload_n hx hb dX10_would_66 rfl (lv_at hl 3 rfl) ?_
        refine lv_iconst (v := iZ 1) hx hb dX10_would_67 rfl ?_
        refine fz_icmp_ne (tgt := 80) (by constructor <;> (first | ((try clear c59_); (try clear ytk); (try clear h00z); (try clear hfr); (try clear y4); (try clear y3); (try clear y2); (try clear y1); (try clear hμz); (try clear hz9); (try clear lJ); (try clear aJ); (try clear pw3); (try clear pw2); (try clear pw1); (try clear p3); (try clear p2); (try clear p1); (try clear sB); (try clear sbk); (try clear sw3); (try clear sw2); (try clear sw1); (try clear hR2); (try clear kt2); (try clear kt1); (try clear ktk); (try clear e71k); (try clear e9k); (try clear e10k); (try clear kwT); (try clear kwB); (try clear kw); (try clear kPg); (try clear kS3); (try clear kTw); (try clear kTb); (try clear kT); (try clear k10); (try clear hQ2); (try clear c47_); (try clear hrb); (try clear hμ8); (try clear r10); (try clear c34_); (try clear hin2); (try clear hin); (try clear hμ6); (try clear μ6); (try clear c24_); (try clear hμ4); (try clear r5); (try clear μ4); (try clear hpp); (try clear c11_); (try clear hip2); (try clear hip); (try clear hμ2); (try clear μ2); (try clear gt2); (try clear gt1); (try clear gtk); (try clear gwT); (try clear gwB); (try clear gw); (try clear gPg); (try clear gS3); (try clear gTw); (try clear gTb); (try clear gT); (try clear g10); (try clear fwT); (try clear fwB); (try clear fw9); (try clear fPg); (try clear fS3); (try clear fTw); (try clear fTb); (try clear fT); (try clear f10); (try clear hQc); (try clear hQ1); (try clear e71); (try clear e10); (try clear ht0); (try clear x); (try clear eμ1); (try clear hQ); (try clear hsz); (try clear s₁); omega) | omega)) (by decide) hx hb dX10_would_68 (by decide) (fun c68_ => ?_) (fun c68_ => ?_)
        · refine lv_aload_n hx hb dX10_would_80 rfl (lv_at hl 1 rfl) ?_
          refine fz_get (D := (dC, dI)) (ci := 10) (v := .ref (h0 + 719)) (C := RX10) (T := TX10) (N := 53) hx hb hts inG10 hown hK hP (k := 0) (by decide) (F := mF h0) mE_obj rfl 21 (by decide) (hts _ k1187) (fun _ h9 => h9) rfl dX10_would_81 ?_
          refine lv_bipush (v := iZ 53) hx hb dX10_would_84 rfl ?_
          refine fz_ld (k := 719) (n := 70) hx hb hK hP 0 (by decide) mE_nodes rfl ⟨by (first | ((try clear c68_); (try clear c59_); (try clear ytk); (try clear h00z); (try clear hfr); (try clear y4); (try clear y3); (try clear y2); (try clear y1); (try clear hμz); (try clear hz9); (try clear lJ); (try clear aJ); (try clear pw3); (try clear pw2); (try clear pw1); (try clear p3); (try clear p2); (try clear p1); (try clear sB); (try clear sbk); (try clear sw3); (try clear sw2); (try clear sw1); (try clear hR2); (try clear kt2); (try clear kt1); (try clear ktk); (try clear e71k); (try clear e9k); (try clear e10k); (try clear kwT); (try clear kwB); (try clear kw); (try clear kPg); (try clear kS3); (try clear kTw); (try clear kTb); (try clear kT); (try clear k10); (try clear hQ2); (try clear c47_); (try clear hrb); (try clear hμ8); (try clear r10); (try clear c34_); (try clear hin2); (try clear hin); (try clear hμ6); (try clear μ6); (try clear c24_); (try clear hμ4); (try clear r5); (try clear μ4); (try clear hpp); (try clear c11_); (try clear hip2); (try clear hip); (try clear hμ2); (try clear μ2); (try clear gt2); (try clear gt1); (try clear gtk); (try clear gwT); (try clear gwB); (try clear gw); (try clear gPg); (try clear gS3); (try clear gTw); (try clear gTb); (try clear gT); (try clear g10); (try clear fwT); (try clear fwB); (try clear fw9); (try clear fPg); (try clear fS3); (try clear fTw); (try clear fTb); (try clear fT); (try clear f10); (try clear hQc); (try clear hQ1); (try clear e71); (try clear e10); (try clear ht0); (try clear x); (try clear eμ1); (try clear hQ); (try clear hsz); (try clear s₁); omega) | omega), by (first | ((try clear c68_); (try clear c59_); (try clear ytk); (try clear h00z); (try clear hfr); (try clear y4); (try clear y3); (try clear y2); (try clear y1); (try clear hμz); (try clear hz9); (try clear lJ); (try clear aJ); (try clear pw3); (try clear pw2); (try clear pw1); (try clear p3); (try clear p2); (try clear p1); (try clear sB); (try clear sbk); (try clear sw3); (try clear sw2); (try clear sw1); (try clear hR2); (try clear kt2); (try clear kt1); (try clear ktk); (try clear e71k); (try clear e9k); (try clear e10k); (try clear kwT); (try clear kwB); (try clear kw); (try clear kPg); (try clear kS3); (try clear kTw); (try clear kTb); (try clear kT); (try clear k10); (try clear hQ2); (try clear c47_); (try clear hrb); (try clear hμ8); (try clear r10); (try clear c34_); (try clear hin2); (try clear hin); (try clear hμ6); (try clear μ6); (try clear c24_); (try clear hμ4); (try clear r5); (try clear μ4); (try clear hpp); (try clear c11_); (try clear hip2); (try clear hip); (try clear hμ2); (try clear μ2); (try clear gt2); (try clear gt1); (try clear gtk); (try clear gwT); (try clear gwB); (try clear gw); (try clear gPg); (try clear gS3); (try clear gTw); (try clear gTb); (try clear gT); (try clear g10); (try clear fwT); (try clear fwB); (try clear fw9); (try clear fPg); (try clear fS3); (try clear fTw); (try clear fTb); (try clear fT); (try clear f10); (try clear hQc); (try clear hQ1); (try clear e71); (try clear e10); (try clear ht0); (try clear x); (try clear eμ1); (try clear hQ); (try clear hsz); (try clear s₁); omega) | omega)⟩ (by decide) dX10_would_86 ?_
          rw [show (53 : Int).toNat = 53 from rfl]
          exact W.iret (v := iZ (μz 719 53)) hx hb hr (fun t9 ht9 hW9 => ⟨⟨iZ (μz 719 53), (μz, μz 719 53), rfl, ⟨rfl, (by
                            dsimp only
                            exact ⟨hfr, by (first | ((try clear ytk); (try clear hfr); (try clear y4); (try clear y3); (try clear y2); (try clear y1); (try clear hμz); (try clear hz9); (try clear lJ); (try clear pw3); (try clear pw2); (try clear pw1); (try clear p3); (try clear p2); (try clear p1); (try clear sB); (try clear sbk); (try clear sw3); (try clear sw2); (try clear sw1); (try clear hR2); (try clear kt2); (try clear kt1); (try clear ktk); (try clear e71k); (try clear e9k); (try clear e10k); (try clear kwT); (try clear kwB); (try clear kw); (try clear kPg); (try clear kS3); (try clear kTw); (try clear kTb); (try clear kT); (try clear k10); (try clear hQ2); (try clear c47_); (try clear hμ8); (try clear r10); (try clear hin); (try clear hμ6); (try clear c24_); (try clear hμ4); (try clear r5); (try clear hpp); (try clear c11_); (try clear hip2); (try clear hip); (try clear hμ2); (try clear μ2); (try clear gt2); (try clear gt1); (try clear gtk); (try clear gwT); (try clear gwB); (try clear gw); (try clear gPg); (try clear gS3); (try clear gTw); (try clear gTb); (try clear gT); (try clear g10); (try clear fwT); (try clear fwB); (try clear fw9); (try clear fPg); (try clear fS3); (try clear fTw); (try clear fTb); (try clear fT); (try clear f10); (try clear hQc); (try clear hQ1); (try clear e71); (try clear e10); (try clear x); (try clear eμ1); (try clear hQ); (try clear hsz); (try clear s₁); omega) | omega)⟩)⟩, by rw [ht9]; exact hP, va_K.moved hW9.alike hK⟩, hS.F ht9⟩) hS.2.2 dX10_would_87
        · refine lv_aload_n hx hb dX10_would_71 rfl (lv_at hl 1 rfl) ?_
          refine lv_bipush (v := iZ 53) hx hb dX10_would_72 rfl ?_
          refine va_calli (va_runV (As := [.int (iZ (53))]) (rest := []) ⟨hx, hb, hml, hown, hts⟩ (m_sizeOfAll2 l dC dI cI cZ cII cIII h0 H.size μz (53) (by decide) (by exact ytk)) (cwV 1 hts (gV_G k1488 k1490 ks_yX10_sizeOfAll k13 k1491) rfl rfl rfl (by decide +kernel) ⟨Nat.le_of_ble_eq_true rfl, Nat.le_of_ble_eq_true rfl⟩) ⟨fun a U g mk q => by obtain ⟨q0, q1, qP, qK⟩ := q; exact ⟨q0, q1, qP, va_K.moved (u := U) (U := U.calling g mk a) (Vm.Alike.refl U.vm) qK⟩, va_recv hK hP (ci := 10) (q0 := 0) rfl ((fw_get (by decide)).trans (by rw [mE_obj]; rfl)), fun U hU hW => ⟨rfl, by rw [hU], by rw [hU]; exact hP, va_K.moved hW.alike hK⟩⟩ rfl rfl hl.1 rfl (lv_room (Nat.le_of_ble_eq_true rfl)) dX10_would_74 ⟨Nat.le_of_ble_eq_true rfl, Nat.le_of_ble_eq_true rfl⟩) hS (fun q _ h => fA_le hS.1 q h) (fA_le hS.1) (fun r9 u9 t9 H1 locs ht9 hvm9 hw9 hB9 hz9 hk9 hS => ?_)
          obtain ⟨μ11, r12⟩ := u9
          obtain ⟨hP, -⟩ := hB9
          rw [ht9] at hP
          generalize H1 = H at hP hS ⊢
          obtain ⟨e9, hw9⟩ := hw9
          have e9 : r9 = iZ r12 := e9
          subst e9
          simp only at hP hw9
          have hμ11 := hw9; clear hw9
          rw [hμ11.1] at hP; have hμ11 := hμ11.2
          refine lv_goto (tgt := 87) hx hb dX10_would_77 (by decide) ?_
          exact W.iret (v := iZ (r12)) hx hb hr (fun t9 ht9 hW9 => ⟨⟨iZ (r12), (μz, r12), rfl, ⟨rfl, (by
                            dsimp only
                            exact ⟨hfr, by (first | ((try clear hμ11); (try clear μ11); (try clear hz9); (try clear ytk); (try clear hfr); (try clear y4); (try clear y3); (try clear y2); (try clear y1); (try clear hμz); (try clear lJ); (try clear pw3); (try clear pw2); (try clear pw1); (try clear p3); (try clear p2); (try clear p1); (try clear sB); (try clear sbk); (try clear sw3); (try clear sw2); (try clear sw1); (try clear hR2); (try clear kt2); (try clear kt1); (try clear ktk); (try clear e71k); (try clear e9k); (try clear e10k); (try clear kwT); (try clear kwB); (try clear kw); (try clear kPg); (try clear kS3); (try clear kTw); (try clear kTb); (try clear kT); (try clear k10); (try clear hQ2); (try clear c47_); (try clear hμ8); (try clear r10); (try clear hin); (try clear hμ6); (try clear c24_); (try clear hμ4); (try clear r5); (try clear hpp); (try clear c11_); (try clear hip2); (try clear hip); (try clear hμ2); (try clear μ2); (try clear gt2); (try clear gt1); (try clear gtk); (try clear gwT); (try clear gwB); (try clear gw); (try clear gPg); (try clear gS3); (try clear gTw); (try clear gTb); (try clear gT); (try clear g10); (try clear fwT); (try clear fwB); (try clear fw9); (try clear fPg); (try clear fS3); (try clear fTw); (try clear fTb); (try clear fT); (try clear f10); (try clear hQc); (try clear hQ1); (try clear e71); (try clear e10); (try clear x); (try clear eμ1); (try clear hQ); (try clear hsz); (try clear s₁); omega) | omega)⟩)⟩, by rw [ht9]; exact hP, va_K.moved hW9.alike hK⟩, hS.F ht9⟩) hS.2.2 dX10_would_87
      · refine lv_iload_n hx hb dX10_would_62 rfl (lv_at hl 0 rfl) ?_
        refine lv_goto (tgt := 87) hx hb dX10_would_63 (by decide) ?_
        exact W.iret (v := iZ (rz)) hx hb hr (fun t9 ht9 hW9 => ⟨⟨iZ (rz), (μz, rz), rfl, ⟨rfl, (by
                        dsimp only
                        exact ⟨hfr, by (first | ((try clear c59_); (try clear ytk); (try clear hfr); (try clear y4); (try clear y3); (try clear y2); (try clear y1); (try clear hμz); (try clear hz9); (try clear lJ); (try clear pw3); (try clear pw2); (try clear pw1); (try clear p3); (try clear p2); (try clear p1); (try clear sB); (try clear sbk); (try clear sw3); (try clear sw2); (try clear sw1); (try clear hR2); (try clear kt2); (try clear kt1); (try clear ktk); (try clear e71k); (try clear e9k); (try clear e10k); (try clear kwT); (try clear kwB); (try clear kw); (try clear kPg); (try clear kS3); (try clear kTw); (try clear kTb); (try clear kT); (try clear k10); (try clear hQ2); (try clear c47_); (try clear hμ8); (try clear r10); (try clear hin); (try clear hμ6); (try clear c24_); (try clear hμ4); (try clear r5); (try clear hpp); (try clear c11_); (try clear hip2); (try clear hip); (try clear hμ2); (try clear μ2); (try clear gt2); (try clear gt1); (try clear gtk); (try clear gwT); (try clear gwB); (try clear gw); (try clear gPg); (try clear gS3); (try clear gTw); (try clear gTb); (try clear gT); (try clear g10); (try clear fwT); (try clear fwB); (try clear fw9); (try clear fPg); (try clear fS3); (try clear fTw); (try clear fTb); (try clear fT); (try clear f10); (try clear hQc); (try clear hQ1); (try clear e71); (try clear e10); (try clear x); (try clear eμ1); (try clear hQ); (try clear hsz); (try clear s₁); omega) | omega)⟩)⟩, by rw [ht9]; exact hP, va_K.moved hW9.alike hK⟩, hS.F ht9⟩) hS.2.2 dX10_would_87
    · refine lv_iconst (v := iZ 1) hx hb dX10_would_37 rfl ?_
      refine lv_goto (tgt := 42) hx hb dX10_would_38 (by decide) ?_
      refine lv_iconst (v := iZ 2) hx hb dX10_would_42 rfl ?_
      refine lv_iconst (v := iZ 1) hx hb dX10_would_43 rfl ?_
      refine va_calli (va_runV (As := [.int (iZ (1)), .int (iZ (2)), .int (iZ (1))]) (rest := []) ⟨hx, hb, hml, hown, hts⟩ (m_bad2 l dC dI cI cZ cII cIII h0 H.size μ4 (1) (2) (1) (by first | assumption | (first | ((try clear c34_); (try clear hin2); (try clear hin); (try clear hμ6); (try clear μ6); (try clear hz9); (try clear c24_); (try clear hrb); (try clear hfr); (try clear hμ4); (try clear r5); (try clear μ4); (try clear hpp); (try clear c11_); (try clear hip2); (try clear hip); (try clear hμ2); (try clear μ2); (try clear gt2); (try clear gt1); (try clear gtk); (try clear gwT); (try clear gwB); (try clear gw); (try clear gPg); (try clear gS3); (try clear gTw); (try clear gTb); (try clear gT); (try clear g10); (try clear fwT); (try clear fwB); (try clear fw9); (try clear fPg); (try clear fS3); (try clear fTw); (try clear fTb); (try clear fT); (try clear f10); (try clear hQc); (try clear hQ1); (try clear e71); (try clear e10); (try clear ht0); (try clear x); (try clear eμ1); (try clear hQ); (try clear hsz); (try clear s₁); omega) | omega) | exact ⟨by omega, by omega⟩) (by first | assumption | (first | ((try clear c34_); (try clear hin2); (try clear hin); (try clear hμ6); (try clear μ6); (try clear hz9); (try clear c24_); (try clear hrb); (try clear hfr); (try clear hμ4); (try clear r5); (try clear μ4); (try clear hpp); (try clear c11_); (try clear hip2); (try clear hip); (try clear hμ2); (try clear μ2); (try clear gt2); (try clear gt1); (try clear gtk); (try clear gwT); (try clear gwB); (try clear gw); (try clear gPg); (try clear gS3); (try clear gTw); (try clear gTb); (try clear gT); (try clear g10); (try clear fwT); (try clear fwB); (try clear fw9); (try clear fPg); (try clear fS3); (try clear fTw); (try clear fTb); (try clear fT); (try clear f10); (try clear hQc); (try clear hQ1); (try clear e71); (try clear e10); (try clear ht0); (try clear x); (try clear eμ1); (try clear hQ); (try clear hsz); (try clear s₁); omega) | omega) | exact ⟨by omega, by omega⟩) (by first | assumption | (first | ((try clear c34_); (try clear hin2); (try clear hin); (try clear hμ6); (try clear μ6); (try clear hz9); (try clear c24_); (try clear hrb); (try clear hfr); (try clear hμ4); (try clear r5); (try clear μ4); (try clear hpp); (try clear c11_); (try clear hip2); (try clear hip); (try clear hμ2); (try clear μ2); (try clear gt2); (try clear gt1); (try clear gtk); (try clear gwT); (try clear gwB); (try clear gw); (try clear gPg); (try clear gS3); (try clear gTw); (try clear gTb); (try clear gT); (try clear g10); (try clear fwT); (try clear fwB); (try clear fw9); (try clear fPg); (try clear fS3); (try clear fTw); (try clear fTb); (try clear fT); (try clear f10); (try clear hQc); (try clear hQ1); (try clear e71); (try clear e10); (try clear ht0); (try clear x); (try clear eμ1); (try clear hQ); (try clear hsz); (try clear s₁); omega) | omega) | exact ⟨by omega, by omega⟩) (by first | assumption | (first | ((try clear hin); (try clear hμ6); (try clear hz9); (try clear c24_); (try clear hfr); (try clear hμ4); (try clear r5); (try clear hpp); (try clear c11_); (try clear hip2); (try clear hip); (try clear hμ2); (try clear μ2); (try clear gt2); (try clear gt1); (try clear gtk); (try clear gwT); (try clear gwB); (try clear gw); (try clear gPg); (try clear gS3); (try clear gTw); (try clear gTb); (try clear gT); (try clear g10); (try clear fwT); (try clear fwB); (try clear fw9); (try clear fPg); (try clear fS3); (try clear fTw); (try clear fTb); (try clear fT); (try clear f10); (try clear hQc); (try clear hQ1); (try clear e71); (try clear e10); (try clear x); (try clear eμ1); (try clear hQ); (try clear hsz); (try clear s₁); omega) | omega) | exact ⟨by omega, by omega⟩)) (cwV 3 hts (gV_G k1342 k1344 ks_yX10_bad k13 k1345) rfl rfl rfl (by decide +kernel) ⟨Nat.le_of_ble_eq_true rfl, Nat.le_of_ble_eq_true rfl⟩) ⟨fun a U g mk q => by obtain ⟨q0, q1, qP, qK⟩ := q; exact ⟨q0, q1, qP, va_K.moved (u := U) (U := U.calling g mk a) (Vm.Alike.refl U.vm) qK⟩, va_recv hK hP (ci := 10) (q0 := 0) rfl ((fw_get (by decide)).trans (by rw [mE_obj]; rfl)), fun U hU hW => ⟨rfl, by rw [hU], by rw [hU]; exact hP, va_K.moved hW.alike hK⟩⟩ rfl rfl hl.1 rfl (lv_room (Nat.le_of_ble_eq_true rfl)) dX10_would_44 ⟨Nat.le_of_ble_eq_true rfl, Nat.le_of_ble_eq_true rfl⟩) hS (fun q _ h => fA_le hS.1 q h) (fA_le hS.1) (fun r9 u9 t9 H1 locs ht9 hvm9 hw9 hB9 hz9 hk9 hS => ?_)
      obtain ⟨μ13, r14⟩ := u9
      obtain ⟨hP, -⟩ := hB9
      rw [ht9] at hP
      generalize H1 = H at hP hS ⊢
      obtain ⟨e9, hw9⟩ := hw9
      have e9 : r9 = iZ r14 := e9
      subst e9
      simp only at hP hw9
      have hμ13 := hw9; clear hw9
      have hfr := fr_trans hfr (badP_fr hμ13)
      have hrb := badP_r hμ13
      obtain rfl : r14 = 1 := by (first | ((try clear hfr); (try clear hμ13); (try clear hz9); (try clear c34_); (try clear hin2); (try clear hin); (try clear hμ6); (try clear μ6); (try clear c24_); (try clear hμ4); (try clear r5); (try clear hpp); (try clear c11_); (try clear hip2); (try clear hip); (try clear hμ2); (try clear μ2); (try clear gt2); (try clear gt1); (try clear gtk); (try clear gwT); (try clear gwB); (try clear gw); (try clear gPg); (try clear gS3); (try clear gTw); (try clear gTb); (try clear gT); (try clear g10); (try clear fwT); (try clear fwB); (try clear fw9); (try clear fPg); (try clear fS3); (try clear fTw); (try clear fTb); (try clear fT); (try clear f10); (try clear hQc); (try clear hQ1); (try clear e71); (try clear e10); (try clear ht0); (try clear x); (try clear eμ1); (try clear hQ); (try clear hsz); (try clear s₁); omega) | omega)
      refine fz_if_eq (tgt := 52) (by decide) hx hb dX10_would_47 (by decide) (fun h9 => absurd h9 (by decide)) (fun c47_ => ?_)
      refine lv_iconst (v := iZ 0) hx hb dX10_would_50 rfl ?_
      exact W.iret (v := iZ (0)) hx hb hr (fun t9 ht9 hW9 => ⟨⟨iZ (0), (μ13, 0), rfl, ⟨rfl, (by
                    dsimp only
                    exact ⟨hfr, by (first | ((try clear hfr); (try clear hμ13); (try clear r14); (try clear hz9); (try clear c34_); (try clear hin2); (try clear hin); (try clear hμ6); (try clear μ6); (try clear c24_); (try clear hμ4); (try clear r5); (try clear hpp); (try clear c11_); (try clear hip2); (try clear hip); (try clear hμ2); (try clear μ2); (try clear gt2); (try clear gt1); (try clear gtk); (try clear gwT); (try clear gwB); (try clear gw); (try clear gPg); (try clear gS3); (try clear gTw); (try clear gTb); (try clear gT); (try clear g10); (try clear fwT); (try clear fwB); (try clear fw9); (try clear fPg); (try clear fS3); (try clear fTw); (try clear fTb); (try clear fT); (try clear f10); (try clear hQc); (try clear hQ1); (try clear e71); (try clear e10); (try clear ht0); (try clear x); (try clear eμ1); (try clear hQ); (try clear hsz); (try clear s₁); omega) | omega)⟩)⟩, by rw [ht9]; exact hP, va_K.moved hW9.alike hK⟩, hS.F ht9⟩) hS.2.2 dX10_would_51
  · refine lv_iconst (v := iZ 1) hx hb dX10_would_14 rfl ?_
    refine lv_goto (tgt := 19) hx hb dX10_would_15 (by decide) ?_
    refine lv_iconst (v := iZ 1) hx hb dX10_would_19 rfl ?_
    refine lv_iconst (v := iZ 0) hx hb dX10_would_20 rfl ?_
    refine va_calli (va_runV (As := [.int (iZ (1)), .int (iZ (1)), .int (iZ (0))]) (rest := []) ⟨hx, hb, hml, hown, hts⟩ (m_bad2 l dC dI cI cZ cII cIII h0 H.size μ1 (1) (1) (0) (by first | assumption | (first | ((try clear c11_); (try clear hip2); (try clear hip); (try clear hμ2); (try clear μ2); (try clear hz9); (try clear gt2); (try clear gt1); (try clear gtk); (try clear gwT); (try clear gwB); (try clear gw); (try clear gPg); (try clear gS3); (try clear gTw); (try clear gTb); (try clear gT); (try clear g10); (try clear fwT); (try clear fwB); (try clear fw9); (try clear fPg); (try clear fS3); (try clear fTw); (try clear fTb); (try clear fT); (try clear f10); (try clear hQc); (try clear hQ1); (try clear e71); (try clear e10); (try clear ht0); (try clear x); (try clear eμ1); (try clear hQ); (try clear hsz); (try clear s₁); omega) | omega) | exact ⟨by omega, by omega⟩) (by first | assumption | (first | ((try clear c11_); (try clear hip2); (try clear hip); (try clear hμ2); (try clear μ2); (try clear hz9); (try clear gt2); (try clear gt1); (try clear gtk); (try clear gwT); (try clear gwB); (try clear gw); (try clear gPg); (try clear gS3); (try clear gTw); (try clear gTb); (try clear gT); (try clear g10); (try clear fwT); (try clear fwB); (try clear fw9); (try clear fPg); (try clear fS3); (try clear fTw); (try clear fTb); (try clear fT); (try clear f10); (try clear hQc); (try clear hQ1); (try clear e71); (try clear e10); (try clear ht0); (try clear x); (try clear eμ1); (try clear hQ); (try clear hsz); (try clear s₁); omega) | omega) | exact ⟨by omega, by omega⟩) (by first | assumption | (first | ((try clear c11_); (try clear hip2); (try clear hip); (try clear hμ2); (try clear μ2); (try clear hz9); (try clear gt2); (try clear gt1); (try clear gtk); (try clear gwT); (try clear gwB); (try clear gw); (try clear gPg); (try clear gS3); (try clear gTw); (try clear gTb); (try clear gT); (try clear g10); (try clear fwT); (try clear fwB); (try clear fw9); (try clear fPg); (try clear fS3); (try clear fTw); (try clear fTb); (try clear fT); (try clear f10); (try clear hQc); (try clear hQ1); (try clear e71); (try clear e10); (try clear ht0); (try clear x); (try clear eμ1); (try clear hQ); (try clear hsz); (try clear s₁); omega) | omega) | exact ⟨by omega, by omega⟩) (by first | assumption | omega | exact ⟨by omega, by omega⟩)) (cwV 3 hts (gV_G k1342 k1344 ks_yX10_bad k13 k1345) rfl rfl rfl (by decide +kernel) ⟨Nat.le_of_ble_eq_true rfl, Nat.le_of_ble_eq_true rfl⟩) ⟨fun a U g mk q => by obtain ⟨q0, q1, qP, qK⟩ := q; exact ⟨q0, q1, qP, va_K.moved (u := U) (U := U.calling g mk a) (Vm.Alike.refl U.vm) qK⟩, va_recv hK hP (ci := 10) (q0 := 0) rfl ((fw_get (by decide)).trans (by rw [mE_obj]; rfl)), fun U hU hW => ⟨rfl, by rw [hU], by rw [hU]; exact hP, va_K.moved hW.alike hK⟩⟩ rfl rfl hl.1 rfl (lv_room (Nat.le_of_ble_eq_true rfl)) dX10_would_21 ⟨Nat.le_of_ble_eq_true rfl, Nat.le_of_ble_eq_true rfl⟩) hS (fun q _ h => fA_le hS.1 q h) (fA_le hS.1) (fun r9 u9 t9 H1 locs ht9 hvm9 hw9 hB9 hz9 hk9 hS => ?_)
    obtain ⟨μ15, r16⟩ := u9
    obtain ⟨hP, -⟩ := hB9
    rw [ht9] at hP
    generalize H1 = H at hP hS ⊢
    obtain ⟨e9, hw9⟩ := hw9
    have e9 : r9 = iZ r16 := e9
    subst e9
    simp only at hP hw9
    have hμ15 := hw9; clear hw9
    have hfr := fr_trans hfr (badP_fr hμ15)
    have hrb := badP_r hμ15
    obtain rfl : r16 = 1 := by (first | ((try clear hfr); (try clear hμ15); (try clear hz9); (try clear c11_); (try clear hip2); (try clear hip); (try clear hμ2); (try clear μ2); (try clear gt2); (try clear gt1); (try clear gtk); (try clear gwT); (try clear gwB); (try clear gw); (try clear gPg); (try clear gS3); (try clear gTw); (try clear gTb); (try clear gT); (try clear g10); (try clear fwT); (try clear fwB); (try clear fw9); (try clear fPg); (try clear fS3); (try clear fTw); (try clear fTb); (try clear fT); (try clear f10); (try clear hQc); (try clear hQ1); (try clear e71); (try clear e10); (try clear ht0); (try clear x); (try clear eμ1); (try clear hQ); (try clear hsz); (try clear s₁); omega) | omega)
    refine fz_if_ne (tgt := 50) (by decide) hx hb dX10_would_24 (by decide) (fun c24_ => ?_) (fun h9 => absurd h9 (by decide))
    refine lv_iconst (v := iZ 0) hx hb dX10_would_50 rfl ?_
    exact W.iret (v := iZ (0)) hx hb hr (fun t9 ht9 hW9 => ⟨⟨iZ (0), (μ15, 0), rfl, ⟨rfl, (by
                dsimp only
                exact ⟨hfr, by (first | ((try clear hfr); (try clear hμ15); (try clear r16); (try clear hz9); (try clear c11_); (try clear hip2); (try clear hip); (try clear hμ2); (try clear μ2); (try clear gt2); (try clear gt1); (try clear gtk); (try clear gwT); (try clear gwB); (try clear gw); (try clear gPg); (try clear gS3); (try clear gTw); (try clear gTb); (try clear gT); (try clear g10); (try clear fwT); (try clear fwB); (try clear fw9); (try clear fPg); (try clear fS3); (try clear fTw); (try clear fTb); (try clear fT); (try clear f10); (try clear hQc); (try clear hQ1); (try clear e71); (try clear e10); (try clear ht0); (try clear x); (try clear eμ1); (try clear hQ); (try clear hsz); (try clear s₁); omega) | omega)⟩)⟩, by rw [ht9]; exact hP, va_K.moved hW9.alike hK⟩, hS.F ht9⟩) hS.2.2 dX10_would_51
set_option maxHeartbeats 4000000 in
set_option maxRecDepth 100000 in
theorem m_distance (l : Launch) (dC : Nat → ClassId) (dI : Nat → Nat → Nat) (cI cZ cII cIII : ClassId) (h0 sz : Nat) (μ : va_M) (pp : Int) (pq : Int) (J : Rw → Prop) (hR : RI J μ) (hJK : JOK J) (hp : inR pp) (hq : inR pq) : Met l yX10_distance (Cond.code yX10_distance cX10_distance 3 (some .int) :: wsG) ({ frames := 70, cells := 0, slots := 0, locals := 2377 } : Room) (va_Pc [.ref h0, .int (iZ (pp)), .int (iZ (pq))] (fun U => U.heap.size = sz ∧ va_P (dC, dI) vwCl (fw (mE cI cZ cII cIII h0) h0 6325 μ) U.heap ∧ va_K (dC, dI) vwCl (mT cI cZ cII cIII) U)) (va_Qi (fun (r9 : Int32) (u : va_M × Int) => r9 = iZ u.2 ∧ (fun (u : va_M) (r : Int) => fr PS μ u ∧ (u 0 0 = 0 ∨ u 0 0 = 1 ∨ u 0 0 = 2)) u.1 u.2) (fun u t => va_P (dC, dI) vwCl (fw (mE cI cZ cII cIII h0) h0 6325 u.1) t.heap ∧ va_K (dC, dI) vwCl (mT cI cZ cII cIII) t) (fA h0 6325 sz)) 0 0 (fA h0 6325 sz) := by
  refine Met.ofW (cc := cX10_distance) (maxL := 3) (ret := (some .int)) (by decide) rfl ?_
  intro p e s m args below meth c s₁ B hml hv
  obtain ⟨rfl, hsz, hP, hK⟩ := hv
  have hx := B.exec
  have hb := B.bytes
  have hr := B.returns
  have hts : ∀ w ∈ wsG, w.before _ s = true := hG_of (atoms_spec (ws := (Cond.code yX10_distance cX10_distance 3 (some .int) :: wsG)) B.pre)
  have hown : s.vm.findClass RX10 = some m.cls := findClass_of_methodNamed B.named
  have hlocks := B.notSynchronized
  subst hsz
  have hS : va_S (fA h0 6325 s.heap.size) s.heap s.heap [] := va_S.rf
  have hl := lv_entry ([.ref h0, .int (iZ (pp)), .int (iZ (pq))]) (n := 3) (Nat.le_of_ble_eq_true rfl)
  rw [lg_entry_eq]
  generalize (lg_sl ([.ref h0, .int (iZ (pp)), .int (iZ (pq))]) ++ List.replicate (3 - (lg_sl ([.ref h0, .int (iZ (pp)), .int (iZ (pq))])).length) Slot.unset).toArray = ls at hl ⊢
  have hl : lv_has ls 3 [(0, .ref h0), (1, .int (iZ (pp))), (2, .int (iZ (pq)))] := hl
  have hQ := hR.1
  refine lv_aload_n hx hb dX10_distance_0 rfl (lv_at hl 0 rfl) ?_
  refine lv_iconst (v := iZ 0) hx hb dX10_distance_1 rfl ?_
  refine fz_put (D := (dC, dI)) (ci := 10) (ty := .int) (z := 0) (C := RX10) (T := TX10) (N := 53) hx hb hts inG10 tyX10 tyX10_ok nmX10 hown hK hP fA_in hS (k := 0) (by decide) (F := mF h0) mE_obj rfl 0 (by decide) (hts _ k1166) (fun _ h9 => h9) rfl (by decide +kernel) rfl rfl (fun _ => Nat.le_of_ble_eq_true rfl) (fun _ _ => rfl) dX10_distance_2 (fun H locs hP hS => ?_)
  obtain ⟨μ1, eμ1⟩ : ∃ x : va_M, x = uz μ 0 0 (0) := ⟨_, rfl⟩
  rw [← eμ1] at hP
  have hfr : fr PS μ μ1 := by rw [eμ1]; exact fr_uz fr_rfl (by unfold PS; (first | ((try clear x); (try clear eμ1); (try clear μ1); (try clear hQ); (try clear hsz); (try clear s₁); omega) | omega))
  have ht0 : μ1 0 0 = 0 := by rw [eμ1, uz_s]
  have e10 := hfr 0 10 (PS_n (by (first | ((try clear e10); (try clear ht0); (try clear x); (try clear eμ1); (try clear hQ); (try clear hsz); (try clear s₁); omega) | omega)))
  have e9 := hfr 0 9 (PS_n (by (first | ((try clear e10); (try clear ht0); (try clear x); (try clear eμ1); (try clear hQ); (try clear hsz); (try clear s₁); omega) | omega)))
  have e71 := hfr 719 0 (PS_n (by (first | ((try clear e71); (try clear e10); (try clear ht0); (try clear x); (try clear eμ1); (try clear hQ); (try clear hsz); (try clear s₁); omega) | omega)))
  have hQ1 := RQ_fr hQ hfr
  have hQc := hQ
  obtain ⟨f10, ⟨fT, fTb, fTw⟩, fS3, fPg, fw9, fwB, fwT⟩ := hQc
  obtain ⟨g10, ⟨gT, gTb, gTw⟩, gS3, gPg, gw, gwB, gwT⟩ := hQ1
  have gtk := TR_tok gwT gwB.1 gwB.2.1
  have gt1 := gtk.1
  have gt2 := gtk.2.1
  refine lv_aload_n hx hb dX10_distance_5 rfl (lv_at hl 0 rfl) ?_
  refine lv_aload_n hx hb dX10_distance_6 rfl (lv_at hl 0 rfl) ?_
  refine lv_iload_n hx hb dX10_distance_7 rfl (lv_at hl 1 rfl) ?_
  refine va_calli (va_runV (As := [.int (iZ (pp))]) (rest := [.ref h0]) ⟨hx, hb, hml, hown, hts⟩ (m_isPage l dC dI cI cZ cII cIII h0 H.size μ1 (pp) (by first | assumption | omega | exact ⟨by omega, by omega⟩) (by first | assumption | omega | exact ⟨by omega, by omega⟩)) (cwV 1 hts (gV_G k1588 k1590 ks_yX10_isPage k13 k1591) rfl rfl rfl (by decide +kernel) ⟨Nat.le_of_ble_eq_true rfl, Nat.le_of_ble_eq_true rfl⟩) ⟨fun a U g mk q => by obtain ⟨q0, q1, qP, qK⟩ := q; exact ⟨q0, q1, qP, va_K.moved (u := U) (U := U.calling g mk a) (Vm.Alike.refl U.vm) qK⟩, va_recv hK hP (ci := 10) (q0 := 0) rfl ((fw_get (by decide)).trans (by rw [mE_obj]; rfl)), fun U hU hW => ⟨rfl, by rw [hU], by rw [hU]; exact hP, va_K.moved hW.alike hK⟩⟩ rfl rfl hl.1 rfl (lv_room (Nat.le_of_ble_eq_true rfl)) dX10_distance_8 ⟨Nat.le_of_ble_eq_true rfl, Nat.le_of_ble_eq_true rfl⟩) hS (fun q _ h => fA_le hS.1 q h) (fA_le hS.1) (fun r9 u9 t9 H1 locs ht9 hvm9 hw9 hB9 hz9 hk9 hS => ?_)
  obtain ⟨μ2, r3⟩ := u9
  obtain ⟨hP, -⟩ := hB9
  rw [ht9] at hP
  generalize H1 = H at hP hS ⊢
  obtain ⟨e9, hw9⟩ := hw9
  have e9 : r9 = iZ r3 := e9
  subst e9
  simp only at hP hw9
  have hμ2 := hw9; clear hw9
  rw [hμ2.1] at hP; have hμ2 := hμ2.2
  have hip := hμ2
  have hip2 := if_01 hμ2
  refine fz_if_eq (tgt := 22) (by constructor <;> (first | ((try clear hip); (try clear hμ2); (try clear hz9); (try clear gt2); (try clear gt1); (try clear gtk); (try clear gwT); (try clear gwB); (try clear gw); (try clear gPg); (try clear gS3); (try clear gTw); (try clear gTb); (try clear gT); (try clear g10); (try clear fwT); (try clear fwB); (try clear fw9); (try clear fPg); (try clear fS3); (try clear fTw); (try clear fTb); (try clear fT); (try clear f10); (try clear hQc); (try clear hQ1); (try clear e71); (try clear e10); (try clear ht0); (try clear x); (try clear eμ1); (try clear hQ); (try clear hsz); (try clear s₁); omega) | omega)) hx hb dX10_distance_11 (by decide) (fun c11_ => ?_) (fun c11_ => ?_)
  · refine lv_iconst (v := iZ 1) hx hb dX10_distance_22 rfl ?_
    refine lv_goto (tgt := 27) hx hb dX10_distance_23 (by decide) ?_
    refine lv_iconst (v := iZ 1) hx hb dX10_distance_27 rfl ?_
    refine lv_iconst (v := iZ 0) hx hb dX10_distance_28 rfl ?_
    refine va_calli (va_runV (As := [.int (iZ (1)), .int (iZ (1)), .int (iZ (0))]) (rest := []) ⟨hx, hb, hml, hown, hts⟩ (m_bad2 l dC dI cI cZ cII cIII h0 H.size μ1 (1) (1) (0) (by first | assumption | (first | ((try clear c11_); (try clear hip2); (try clear hip); (try clear hμ2); (try clear μ2); (try clear hz9); (try clear gt2); (try clear gt1); (try clear gtk); (try clear gwT); (try clear gwB); (try clear gw); (try clear gPg); (try clear gS3); (try clear gTw); (try clear gTb); (try clear gT); (try clear g10); (try clear fwT); (try clear fwB); (try clear fw9); (try clear fPg); (try clear fS3); (try clear fTw); (try clear fTb); (try clear fT); (try clear f10); (try clear hQc); (try clear hQ1); (try clear e71); (try clear e10); (try clear ht0); (try clear x); (try clear eμ1); (try clear hQ); (try clear hsz); (try clear s₁); omega) | omega) | exact ⟨by omega, by omega⟩) (by first | assumption | (first | ((try clear c11_); (try clear hip2); (try clear hip); (try clear hμ2); (try clear μ2); (try clear hz9); (try clear gt2); (try clear gt1); (try clear gtk); (try clear gwT); (try clear gwB); (try clear gw); (try clear gPg); (try clear gS3); (try clear gTw); (try clear gTb); (try clear gT); (try clear g10); (try clear fwT); (try clear fwB); (try clear fw9); (try clear fPg); (try clear fS3); (try clear fTw); (try clear fTb); (try clear fT); (try clear f10); (try clear hQc); (try clear hQ1); (try clear e71); (try clear e10); (try clear ht0); (try clear x); (try clear eμ1); (try clear hQ); (try clear hsz); (try clear s₁); omega) | omega) | exact ⟨by omega, by omega⟩) (by first | assumption | (first | ((try clear c11_); (try clear hip2); (try clear hip); (try clear hμ2); (try clear μ2); (try clear hz9); (try clear gt2); (try clear gt1); (try clear gtk); (try clear gwT); (try clear gwB); (try clear gw); (try clear gPg); (try clear gS3); (try clear gTw); (try clear gTb); (try clear gT); (try clear g10); (try clear fwT); (try clear fwB); (try clear fw9); (try clear fPg); (try clear fS3); (try clear fTw); (try clear fTb); (try clear fT); (try clear f10); (try clear hQc); (try clear hQ1); (try clear e71); (try clear e10); (try clear ht0); (try clear x); (try clear eμ1); (try clear hQ); (try clear hsz); (try clear s₁); omega) | omega) | exact ⟨by omega, by omega⟩) (by first | assumption | omega | exact ⟨by omega, by omega⟩)) (cwV 3 hts (gV_G k1342 k1344 ks_yX10_bad k13 k1345) rfl rfl rfl (by decide +kernel) ⟨Nat.le_of_ble_eq_true rfl, Nat.le_of_ble_eq_true rfl⟩) ⟨fun a U g mk q => by obtain ⟨q0, q1, qP, qK⟩ := q; exact ⟨q0, q1, qP, va_K.moved (u := U) (U := U.calling g mk a) (Vm.Alike.refl U.vm) qK⟩, va_recv hK hP (ci := 10) (q0 := 0) rfl ((fw_get (by decide)).trans (by rw [mE_obj]; rfl)), fun U hU hW => ⟨rfl, by rw [hU], by rw [hU]; exact hP, va_K.moved hW.alike hK⟩⟩ rfl rfl hl.1 rfl (lv_room (Nat.le_of_ble_eq_true rfl)) dX10_distance_29 ⟨Nat.le_of_ble_eq_true rfl, Nat.le_of_ble_eq_true rfl⟩) hS (fun q _ h => fA_le hS.1 q h) (fA_le hS.1) (fun r9 u9 t9 H1 locs ht9 hvm9 hw9 hB9 hz9 hk9 hS => ?_)
    obtain ⟨μ4, r5⟩ := u9
    obtain ⟨hP, -⟩ := hB9
    rw [ht9] at hP
    generalize H1 = H at hP hS ⊢
    obtain ⟨e9, hw9⟩ := hw9
    have e9 : r9 = iZ r5 := e9
    subst e9
    simp only at hP hw9
    have hμ4 := hw9; clear hw9
    have hfr := fr_trans hfr (badP_fr hμ4)
    have hrb := badP_r hμ4
    obtain rfl : r5 = 1 := by (first | ((try clear hfr); (try clear hμ4); (try clear hz9); (try clear c11_); (try clear hip2); (try clear hip); (try clear hμ2); (try clear μ2); (try clear gt2); (try clear gt1); (try clear gtk); (try clear gwT); (try clear gwB); (try clear gw); (try clear gPg); (try clear gS3); (try clear gTw); (try clear gTb); (try clear gT); (try clear g10); (try clear fwT); (try clear fwB); (try clear fw9); (try clear fPg); (try clear fS3); (try clear fTw); (try clear fTb); (try clear fT); (try clear f10); (try clear hQc); (try clear hQ1); (try clear e71); (try clear e10); (try clear ht0); (try clear x); (try clear eμ1); (try clear hQ); (try clear hsz); (try clear s₁); omega) | omega)
    refine fz_if_eq (tgt := 37) (by decide) hx hb dX10_distance_32 (by decide) (fun h9 => absurd h9 (by decide)) (fun c32_ => ?_)
    refine lv_iconst (v := iZ 0) hx hb dX10_distance_35 rfl ?_
    exact W.iret (v := iZ (0)) hx hb hr (fun t9 ht9 hW9 => ⟨⟨iZ (0), (μ4, 0), rfl, ⟨rfl, (by
                dsimp only
                exact ⟨hfr, by (first | ((try clear hfr); (try clear hμ4); (try clear r5); (try clear hz9); (try clear c11_); (try clear hip2); (try clear hip); (try clear hμ2); (try clear μ2); (try clear gt2); (try clear gt1); (try clear gtk); (try clear gwT); (try clear gwB); (try clear gw); (try clear gPg); (try clear gS3); (try clear gTw); (try clear gTb); (try clear gT); (try clear g10); (try clear fwT); (try clear fwB); (try clear fw9); (try clear fPg); (try clear fS3); (try clear fTw); (try clear fTb); (try clear fT); (try clear f10); (try clear hQc); (try clear hQ1); (try clear e71); (try clear e10); (try clear ht0); (try clear x); (try clear eμ1); (try clear hQ); (try clear hsz); (try clear s₁); omega) | omega)⟩)⟩, by rw [ht9]; exact hP, va_K.moved hW9.alike hK⟩, hS.F ht9⟩) hS.2.2 dX10_distance_36
  · have hpp := if_get hip (by (first | ((try clear hpp); (try clear hip2); (try clear hip); (try clear hμ2); (try clear r3); (try clear μ2); (try clear hz9); (try clear gt2); (try clear gt1); (try clear gtk); (try clear gwT); (try clear gwB); (try clear gw); (try clear gPg); (try clear gS3); (try clear gTw); (try clear gTb); (try clear gT); (try clear g10); (try clear fwT); (try clear fwB); (try clear fw9); (try clear fPg); (try clear fS3); (try clear fTw); (try clear fTb); (try clear fT); (try clear f10); (try clear hQc); (try clear hQ1); (try clear e71); (try clear e10); (try clear ht0); (try clear x); (try clear eμ1); (try clear μ1); (try clear hQ); (try clear hsz); (try clear s₁); omega) | omega))
    refine lv_aload_n hx hb dX10_distance_14 rfl (lv_at hl 0 rfl) ?_
    refine lv_iload_n hx hb dX10_distance_15 rfl (lv_at hl 2 rfl) ?_
    refine va_calli (va_runV (As := [.int (iZ (pq))]) (rest := [.ref h0]) ⟨hx, hb, hml, hown, hts⟩ (m_isPage l dC dI cI cZ cII cIII h0 H.size μ1 (pq) (by first | assumption | omega | exact ⟨by omega, by omega⟩) (by first | assumption | omega | exact ⟨by omega, by omega⟩)) (cwV 1 hts (gV_G k1588 k1590 ks_yX10_isPage k13 k1591) rfl rfl rfl (by decide +kernel) ⟨Nat.le_of_ble_eq_true rfl, Nat.le_of_ble_eq_true rfl⟩) ⟨fun a U g mk q => by obtain ⟨q0, q1, qP, qK⟩ := q; exact ⟨q0, q1, qP, va_K.moved (u := U) (U := U.calling g mk a) (Vm.Alike.refl U.vm) qK⟩, va_recv hK hP (ci := 10) (q0 := 0) rfl ((fw_get (by decide)).trans (by rw [mE_obj]; rfl)), fun U hU hW => ⟨rfl, by rw [hU], by rw [hU]; exact hP, va_K.moved hW.alike hK⟩⟩ rfl rfl hl.1 rfl (lv_room (Nat.le_of_ble_eq_true rfl)) dX10_distance_16 ⟨Nat.le_of_ble_eq_true rfl, Nat.le_of_ble_eq_true rfl⟩) hS (fun q _ h => fA_le hS.1 q h) (fA_le hS.1) (fun r9 u9 t9 H1 locs ht9 hvm9 hw9 hB9 hz9 hk9 hS => ?_)
    obtain ⟨μ6, r7⟩ := u9
    obtain ⟨hP, -⟩ := hB9
    rw [ht9] at hP
    generalize H1 = H at hP hS ⊢
    obtain ⟨e9, hw9⟩ := hw9
    have e9 : r9 = iZ r7 := e9
    subst e9
    simp only at hP hw9
    have hμ6 := hw9; clear hw9
    rw [hμ6.1] at hP; have hμ6 := hμ6.2
    have hjn := hμ6
    have hjn2 := if_01 hμ6
    refine fz_if_ne (tgt := 26) (by constructor <;> (first | ((try clear hjn); (try clear hμ6); (try clear hz9); (try clear hpp); (try clear c11_); (try clear hip2); (try clear hip); (try clear hμ2); (try clear μ2); (try clear gt2); (try clear gt1); (try clear gtk); (try clear gwT); (try clear gwB); (try clear gw); (try clear gPg); (try clear gS3); (try clear gTw); (try clear gTb); (try clear gT); (try clear g10); (try clear fwT); (try clear fwB); (try clear fw9); (try clear fPg); (try clear fS3); (try clear fTw); (try clear fTb); (try clear fT); (try clear f10); (try clear hQc); (try clear hQ1); (try clear e71); (try clear e10); (try clear ht0); (try clear x); (try clear eμ1); (try clear hQ); (try clear hsz); (try clear s₁); omega) | omega)) hx hb dX10_distance_19 (by decide) (fun c19_ => ?_) (fun c19_ => ?_)
    · have hqq := if_get hjn (by (first | ((try clear hqq); (try clear hjn2); (try clear hjn); (try clear hμ6); (try clear r7); (try clear μ6); (try clear hz9); (try clear hpp); (try clear c11_); (try clear hip2); (try clear hip); (try clear hμ2); (try clear r3); (try clear μ2); (try clear gt2); (try clear gt1); (try clear gtk); (try clear gwT); (try clear gwB); (try clear gw); (try clear gPg); (try clear gS3); (try clear gTw); (try clear gTb); (try clear gT); (try clear g10); (try clear fwT); (try clear fwB); (try clear fw9); (try clear fPg); (try clear fS3); (try clear fTw); (try clear fTb); (try clear fT); (try clear f10); (try clear hQc); (try clear hQ1); (try clear e71); (try clear e10); (try clear ht0); (try clear x); (try clear eμ1); (try clear μ1); (try clear hQ); (try clear hsz); (try clear s₁); omega) | omega))
      refine lv_iconst (v := iZ 0) hx hb dX10_distance_26 rfl ?_
      refine lv_iconst (v := iZ 1) hx hb dX10_distance_27 rfl ?_
      refine lv_iconst (v := iZ 0) hx hb dX10_distance_28 rfl ?_
      refine va_calli (va_runV (As := [.int (iZ (0)), .int (iZ (1)), .int (iZ (0))]) (rest := []) ⟨hx, hb, hml, hown, hts⟩ (m_bad2 l dC dI cI cZ cII cIII h0 H.size μ1 (0) (1) (0) (by first | assumption | (first | ((try clear hqq); (try clear c19_); (try clear hjn2); (try clear hjn); (try clear hμ6); (try clear μ6); (try clear hz9); (try clear hpp); (try clear c11_); (try clear hip2); (try clear hip); (try clear hμ2); (try clear μ2); (try clear gt2); (try clear gt1); (try clear gtk); (try clear gwT); (try clear gwB); (try clear gw); (try clear gPg); (try clear gS3); (try clear gTw); (try clear gTb); (try clear gT); (try clear g10); (try clear fwT); (try clear fwB); (try clear fw9); (try clear fPg); (try clear fS3); (try clear fTw); (try clear fTb); (try clear fT); (try clear f10); (try clear hQc); (try clear hQ1); (try clear e71); (try clear e10); (try clear ht0); (try clear x); (try clear eμ1); (try clear hQ); (try clear hsz); (try clear s₁); omega) | omega) | exact ⟨by omega, by omega⟩) (by first | assumption | (first | ((try clear hqq); (try clear c19_); (try clear hjn2); (try clear hjn); (try clear hμ6); (try clear μ6); (try clear hz9); (try clear hpp); (try clear c11_); (try clear hip2); (try clear hip); (try clear hμ2); (try clear μ2); (try clear gt2); (try clear gt1); (try clear gtk); (try clear gwT); (try clear gwB); (try clear gw); (try clear gPg); (try clear gS3); (try clear gTw); (try clear gTb); (try clear gT); (try clear g10); (try clear fwT); (try clear fwB); (try clear fw9); (try clear fPg); (try clear fS3); (try clear fTw); (try clear fTb); (try clear fT); (try clear f10); (try clear hQc); (try clear hQ1); (try clear e71); (try clear e10); (try clear ht0); (try clear x); (try clear eμ1); (try clear hQ); (try clear hsz); (try clear s₁); omega) | omega) | exact ⟨by omega, by omega⟩) (by first | assumption | (first | ((try clear hqq); (try clear c19_); (try clear hjn2); (try clear hjn); (try clear hμ6); (try clear μ6); (try clear hz9); (try clear hpp); (try clear c11_); (try clear hip2); (try clear hip); (try clear hμ2); (try clear μ2); (try clear gt2); (try clear gt1); (try clear gtk); (try clear gwT); (try clear gwB); (try clear gw); (try clear gPg); (try clear gS3); (try clear gTw); (try clear gTb); (try clear gT); (try clear g10); (try clear fwT); (try clear fwB); (try clear fw9); (try clear fPg); (try clear fS3); (try clear fTw); (try clear fTb); (try clear fT); (try clear f10); (try clear hQc); (try clear hQ1); (try clear e71); (try clear e10); (try clear ht0); (try clear x); (try clear eμ1); (try clear hQ); (try clear hsz); (try clear s₁); omega) | omega) | exact ⟨by omega, by omega⟩) (by first | assumption | omega | exact ⟨by omega, by omega⟩)) (cwV 3 hts (gV_G k1342 k1344 ks_yX10_bad k13 k1345) rfl rfl rfl (by decide +kernel) ⟨Nat.le_of_ble_eq_true rfl, Nat.le_of_ble_eq_true rfl⟩) ⟨fun a U g mk q => by obtain ⟨q0, q1, qP, qK⟩ := q; exact ⟨q0, q1, qP, va_K.moved (u := U) (U := U.calling g mk a) (Vm.Alike.refl U.vm) qK⟩, va_recv hK hP (ci := 10) (q0 := 0) rfl ((fw_get (by decide)).trans (by rw [mE_obj]; rfl)), fun U hU hW => ⟨rfl, by rw [hU], by rw [hU]; exact hP, va_K.moved hW.alike hK⟩⟩ rfl rfl hl.1 rfl (lv_room (Nat.le_of_ble_eq_true rfl)) dX10_distance_29 ⟨Nat.le_of_ble_eq_true rfl, Nat.le_of_ble_eq_true rfl⟩) hS (fun q _ h => fA_le hS.1 q h) (fA_le hS.1) (fun r9 u9 t9 H1 locs ht9 hvm9 hw9 hB9 hz9 hk9 hS => ?_)
      obtain ⟨μ8, r10⟩ := u9
      obtain ⟨hP, -⟩ := hB9
      rw [ht9] at hP
      generalize H1 = H at hP hS ⊢
      obtain ⟨e9, hw9⟩ := hw9
      have e9 : r9 = iZ r10 := e9
      subst e9
      simp only at hP hw9
      have hμ8 := hw9; clear hw9
      have hfr := fr_trans hfr (badP_fr hμ8)
      have hrb := badP_r hμ8
      obtain rfl : r10 = 0 := by (first | ((try clear hfr); (try clear hμ8); (try clear hz9); (try clear hqq); (try clear c19_); (try clear hjn2); (try clear hjn); (try clear hμ6); (try clear μ6); (try clear hpp); (try clear c11_); (try clear hip2); (try clear hip); (try clear hμ2); (try clear μ2); (try clear gt2); (try clear gt1); (try clear gtk); (try clear gwT); (try clear gwB); (try clear gw); (try clear gPg); (try clear gS3); (try clear gTw); (try clear gTb); (try clear gT); (try clear g10); (try clear fwT); (try clear fwB); (try clear fw9); (try clear fPg); (try clear fS3); (try clear fTw); (try clear fTb); (try clear fT); (try clear f10); (try clear hQc); (try clear hQ1); (try clear e71); (try clear e10); (try clear ht0); (try clear x); (try clear eμ1); (try clear hQ); (try clear hsz); (try clear s₁); omega) | omega)
      refine fz_if_eq (tgt := 37) (by decide) hx hb dX10_distance_32 (by decide) (fun c32_ => ?_) (fun h9 => absurd h9 (by decide))
      have hQ2 := RQ_fr hQ hfr
      obtain ⟨k10, ⟨kT, kTb, kTw⟩, kS3, kPg, kw, kwB, kwT⟩ := hQ2
      have e10k := hfr 0 10 (PS_n (by (first | ((try clear e10k); (try clear kwT); (try clear kwB); (try clear kw); (try clear kPg); (try clear kS3); (try clear kTw); (try clear kTb); (try clear kT); (try clear k10); (try clear hQ2); (try clear c32_); (try clear hrb); (try clear hfr); (try clear hμ8); (try clear r10); (try clear hz9); (try clear hqq); (try clear c19_); (try clear hjn2); (try clear hjn); (try clear hμ6); (try clear μ6); (try clear hpp); (try clear c11_); (try clear hip2); (try clear hip); (try clear hμ2); (try clear μ2); (try clear gt2); (try clear gt1); (try clear gtk); (try clear gwT); (try clear gwB); (try clear gw); (try clear gPg); (try clear gS3); (try clear gTw); (try clear gTb); (try clear gT); (try clear g10); (try clear fwT); (try clear fwB); (try clear fw9); (try clear fPg); (try clear fS3); (try clear fTw); (try clear fTb); (try clear fT); (try clear f10); (try clear hQc); (try clear hQ1); (try clear e71); (try clear e10); (try clear ht0); (try clear x); (try clear eμ1); (try clear hQ); (try clear hsz); (try clear s₁); omega) | omega)))
      have e9k := hfr 0 9 (PS_n (by (first | ((try clear e9k); (try clear e10k); (try clear kwT); (try clear kwB); (try clear kw); (try clear kPg); (try clear kS3); (try clear kTw); (try clear kTb); (try clear kT); (try clear k10); (try clear hQ2); (try clear c32_); (try clear hrb); (try clear hfr); (try clear hμ8); (try clear r10); (try clear hz9); (try clear hqq); (try clear c19_); (try clear hjn2); (try clear hjn); (try clear hμ6); (try clear μ6); (try clear hpp); (try clear c11_); (try clear hip2); (try clear hip); (try clear hμ2); (try clear μ2); (try clear gt2); (try clear gt1); (try clear gtk); (try clear gwT); (try clear gwB); (try clear gw); (try clear gPg); (try clear gS3); (try clear gTw); (try clear gTb); (try clear gT); (try clear g10); (try clear fwT); (try clear fwB); (try clear fw9); (try clear fPg); (try clear fS3); (try clear fTw); (try clear fTb); (try clear fT); (try clear f10); (try clear hQc); (try clear hQ1); (try clear e71); (try clear e10); (try clear ht0); (try clear x); (try clear eμ1); (try clear hQ); (try clear hsz); (try clear s₁); omega) | omega)))
      have e71k := hfr 719 0 (PS_n (by (first | ((try clear e71k); (try clear e9k); (try clear e10k); (try clear kwT); (try clear kwB); (try clear kw); (try clear kPg); (try clear kS3); (try clear kTw); (try clear kTb); (try clear kT); (try clear k10); (try clear hQ2); (try clear c32_); (try clear hrb); (try clear hfr); (try clear hμ8); (try clear r10); (try clear hz9); (try clear hqq); (try clear c19_); (try clear hjn2); (try clear hjn); (try clear hμ6); (try clear μ6); (try clear hpp); (try clear c11_); (try clear hip2); (try clear hip); (try clear hμ2); (try clear μ2); (try clear gt2); (try clear gt1); (try clear gtk); (try clear gwT); (try clear gwB); (try clear gw); (try clear gPg); (try clear gS3); (try clear gTw); (try clear gTb); (try clear gT); (try clear g10); (try clear fwT); (try clear fwB); (try clear fw9); (try clear fPg); (try clear fS3); (try clear fTw); (try clear fTb); (try clear fT); (try clear f10); (try clear hQc); (try clear hQ1); (try clear e71); (try clear e10); (try clear ht0); (try clear x); (try clear eμ1); (try clear hQ); (try clear hsz); (try clear s₁); omega) | omega)))
      have ktk := TR_tok kwT kwB.1 kwB.2.1
      have kt1 := ktk.1
      have kt2 := ktk.2.1
      obtain ⟨p1, p2, p3, pw, pw1, pw2, pw3⟩ := kPg pp.toNat (by (first | ((try clear pw3); (try clear pw2); (try clear pw1); (try clear pw); (try clear p3); (try clear p2); (try clear p1); (try clear kt2); (try clear kt1); (try clear ktk); (try clear e71k); (try clear e9k); (try clear kwT); (try clear kwB); (try clear kw); (try clear kPg); (try clear kS3); (try clear kTw); (try clear kTb); (try clear kT); (try clear hQ2); (try clear c32_); (try clear hrb); (try clear hfr); (try clear hμ8); (try clear r10); (try clear hz9); (try clear hqq); (try clear c19_); (try clear hjn2); (try clear hjn); (try clear hμ6); (try clear μ6); (try clear c11_); (try clear hip2); (try clear hip); (try clear hμ2); (try clear μ2); (try clear gt2); (try clear gt1); (try clear gtk); (try clear gwT); (try clear gwB); (try clear gw); (try clear gPg); (try clear gS3); (try clear gTw); (try clear gTb); (try clear gT); (try clear g10); (try clear fwT); (try clear fwB); (try clear fw9); (try clear fPg); (try clear fS3); (try clear fTw); (try clear fTb); (try clear fT); (try clear f10); (try clear hQc); (try clear hQ1); (try clear e71); (try clear ht0); (try clear x); (try clear eμ1); (try clear hQ); (try clear hsz); (try clear s₁); omega) | omega))
      have pTR : TR μ8 (17 + pp).toNat pw := by rw [show (17 + pp).toNat = 17 + pp.toNat by (first | ((try clear pw3); (try clear pw2); (try clear pw1); (try clear p3); (try clear p2); (try clear p1); (try clear kt2); (try clear kt1); (try clear ktk); (try clear e71k); (try clear e9k); (try clear e10k); (try clear kwT); (try clear kwB); (try clear kw); (try clear kPg); (try clear kS3); (try clear kTw); (try clear kTb); (try clear kT); (try clear k10); (try clear hQ2); (try clear c32_); (try clear hrb); (try clear hfr); (try clear hμ8); (try clear r10); (try clear hz9); (try clear hqq); (try clear c19_); (try clear hjn2); (try clear hjn); (try clear hμ6); (try clear μ6); (try clear c11_); (try clear hip2); (try clear hip); (try clear hμ2); (try clear μ2); (try clear gt2); (try clear gt1); (try clear gtk); (try clear gwT); (try clear gwB); (try clear gw); (try clear gPg); (try clear gS3); (try clear gTw); (try clear gTb); (try clear gT); (try clear g10); (try clear fwT); (try clear fwB); (try clear fw9); (try clear fPg); (try clear fS3); (try clear fTw); (try clear fTb); (try clear fT); (try clear f10); (try clear hQc); (try clear hQ1); (try clear e71); (try clear e10); (try clear ht0); (try clear x); (try clear eμ1); (try clear hQ); (try clear hsz); (try clear s₁); omega) | omega)]; exact pw3
      obtain ⟨v1, v2, v3, vw, vw1, vw2, vw3⟩ := kPg pq.toNat (by (first | ((try clear vw3); (try clear vw2); (try clear vw1); (try clear vw); (try clear v3); (try clear v2); (try clear v1); (try clear pw3); (try clear pw2); (try clear pw1); (try clear p3); (try clear p2); (try clear p1); (try clear kt2); (try clear kt1); (try clear ktk); (try clear e71k); (try clear e9k); (try clear kwT); (try clear kwB); (try clear kw); (try clear kPg); (try clear kS3); (try clear kTw); (try clear kTb); (try clear kT); (try clear hQ2); (try clear c32_); (try clear hrb); (try clear hfr); (try clear hμ8); (try clear r10); (try clear hz9); (try clear c19_); (try clear hjn2); (try clear hjn); (try clear hμ6); (try clear μ6); (try clear hpp); (try clear c11_); (try clear hip2); (try clear hip); (try clear hμ2); (try clear μ2); (try clear gt2); (try clear gt1); (try clear gtk); (try clear gwT); (try clear gwB); (try clear gw); (try clear gPg); (try clear gS3); (try clear gTw); (try clear gTb); (try clear gT); (try clear g10); (try clear fwT); (try clear fwB); (try clear fw9); (try clear fPg); (try clear fS3); (try clear fTw); (try clear fTb); (try clear fT); (try clear f10); (try clear hQc); (try clear hQ1); (try clear e71); (try clear ht0); (try clear x); (try clear eμ1); (try clear hQ); (try clear hsz); (try clear s₁); omega) | omega))
      have vTR : TR μ8 (17 + pq).toNat vw := by rw [show (17 + pq).toNat = 17 + pq.toNat by (first | ((try clear vw3); (try clear vw2); (try clear vw1); (try clear v3); (try clear v2); (try clear v1); (try clear pw3); (try clear pw2); (try clear pw1); (try clear p3); (try clear p2); (try clear p1); (try clear kt2); (try clear kt1); (try clear ktk); (try clear e71k); (try clear e9k); (try clear e10k); (try clear kwT); (try clear kwB); (try clear kw); (try clear kPg); (try clear kS3); (try clear kTw); (try clear kTb); (try clear kT); (try clear k10); (try clear hQ2); (try clear c32_); (try clear hrb); (try clear hfr); (try clear hμ8); (try clear r10); (try clear hz9); (try clear c19_); (try clear hjn2); (try clear hjn); (try clear hμ6); (try clear μ6); (try clear hpp); (try clear c11_); (try clear hip2); (try clear hip); (try clear hμ2); (try clear μ2); (try clear gt2); (try clear gt1); (try clear gtk); (try clear gwT); (try clear gwB); (try clear gw); (try clear gPg); (try clear gS3); (try clear gTw); (try clear gTb); (try clear gT); (try clear g10); (try clear fwT); (try clear fwB); (try clear fw9); (try clear fPg); (try clear fS3); (try clear fTw); (try clear fTb); (try clear fT); (try clear f10); (try clear hQc); (try clear hQ1); (try clear e71); (try clear e10); (try clear ht0); (try clear x); (try clear eμ1); (try clear hQ); (try clear hsz); (try clear s₁); omega) | omega)]; exact vw3
      have rJ := hJK.2.2.1 vw vw1 vw2
      have lJ := (hJK.2.2.2.1 vw pw rJ pw1 pw2).1.2.1
      refine lv_aload_n hx hb dX10_distance_37 rfl (lv_at hl 0 rfl) ?_
      refine lv_iload_n hx hb dX10_distance_38 rfl (lv_at hl 1 rfl) ?_
      refine lv_iload_n hx hb dX10_distance_39 rfl (lv_at hl 2 rfl) ?_
      refine va_calli (va_runV (As := [.int (iZ (pp)), .int (iZ (pq))]) (rest := []) ⟨hx, hb, hml, hown, hts⟩ (m_far l dC dI cI cZ cII cIII h0 H.size μ8 (pp) (pq) (vw) (pw) (by (first | ((try clear lJ); (try clear rJ); (try clear vw3); (try clear vw2); (try clear vw1); (try clear v3); (try clear v2); (try clear v1); (try clear pw3); (try clear pw2); (try clear pw1); (try clear p3); (try clear p2); (try clear p1); (try clear kt2); (try clear kt1); (try clear ktk); (try clear e71k); (try clear e9k); (try clear kwT); (try clear kwB); (try clear kw); (try clear kPg); (try clear kS3); (try clear kTw); (try clear kTb); (try clear kT); (try clear hQ2); (try clear c32_); (try clear hrb); (try clear hfr); (try clear hμ8); (try clear r10); (try clear hz9); (try clear hqq); (try clear c19_); (try clear hjn2); (try clear hjn); (try clear hμ6); (try clear μ6); (try clear c11_); (try clear hip2); (try clear hip); (try clear hμ2); (try clear μ2); (try clear gt2); (try clear gt1); (try clear gtk); (try clear gwT); (try clear gwB); (try clear gw); (try clear gPg); (try clear gS3); (try clear gTw); (try clear gTb); (try clear gT); (try clear g10); (try clear fwT); (try clear fwB); (try clear fw9); (try clear fPg); (try clear fS3); (try clear fTw); (try clear fTb); (try clear fT); (try clear f10); (try clear hQc); (try clear hQ1); (try clear e71); (try clear ht0); (try clear x); (try clear eμ1); (try clear hQ); (try clear hsz); (try clear s₁); omega) | omega)) (by (first | ((try clear lJ); (try clear rJ); (try clear vw3); (try clear vw2); (try clear vw1); (try clear v3); (try clear v2); (try clear v1); (try clear pw3); (try clear pw2); (try clear pw1); (try clear p3); (try clear p2); (try clear p1); (try clear kt2); (try clear kt1); (try clear ktk); (try clear e71k); (try clear e9k); (try clear kwT); (try clear kwB); (try clear kw); (try clear kPg); (try clear kS3); (try clear kTw); (try clear kTb); (try clear kT); (try clear hQ2); (try clear c32_); (try clear hrb); (try clear hfr); (try clear hμ8); (try clear r10); (try clear hz9); (try clear c19_); (try clear hjn2); (try clear hjn); (try clear hμ6); (try clear μ6); (try clear c11_); (try clear hip2); (try clear hip); (try clear hμ2); (try clear μ2); (try clear gt2); (try clear gt1); (try clear gtk); (try clear gwT); (try clear gwB); (try clear gw); (try clear gPg); (try clear gS3); (try clear gTw); (try clear gTb); (try clear gT); (try clear g10); (try clear fwT); (try clear fwB); (try clear fw9); (try clear fPg); (try clear fS3); (try clear fTw); (try clear fTb); (try clear fT); (try clear f10); (try clear hQc); (try clear hQ1); (try clear e71); (try clear ht0); (try clear x); (try clear eμ1); (try clear hQ); (try clear hsz); (try clear s₁); omega) | omega)) (by exact vTR) (by exact vw1) (by exact pTR) (by exact pw1) (by exact lJ)) (cwV 2 hts (gV_G k1703 k1705 ks_yX10_far k13 k1706) rfl rfl rfl (by decide +kernel) ⟨Nat.le_of_ble_eq_true rfl, Nat.le_of_ble_eq_true rfl⟩) ⟨fun a U g mk q => by obtain ⟨q0, q1, qP, qK⟩ := q; exact ⟨q0, q1, qP, va_K.moved (u := U) (U := U.calling g mk a) (Vm.Alike.refl U.vm) qK⟩, va_recv hK hP (ci := 10) (q0 := 0) rfl ((fw_get (by decide)).trans (by rw [mE_obj]; rfl)), fun U hU hW => ⟨rfl, by rw [hU], by rw [hU]; exact hP, va_K.moved hW.alike hK⟩⟩ rfl rfl hl.1 rfl (lv_room (Nat.le_of_ble_eq_true rfl)) dX10_distance_40 ⟨Nat.le_of_ble_eq_true rfl, Nat.le_of_ble_eq_true rfl⟩) hS (fun q _ h => fA_le hS.1 q h) (fA_le hS.1) (fun r9 u9 t9 H1 locs ht9 hvm9 hw9 hB9 hz9 hk9 hS => ?_)
      obtain ⟨μz, rz⟩ := u9
      obtain ⟨hP, -⟩ := hB9
      rw [ht9] at hP
      generalize H1 = H at hP hS ⊢
      obtain ⟨e9, hw9⟩ := hw9
      have e9 : r9 = iZ rz := e9
      subst e9
      simp only at hP hw9
      have hμz := hw9; clear hw9
      exact W.iret (v := iZ (rz)) hx hb hr (fun t9 ht9 hW9 => ⟨⟨iZ (rz), (μz, rz), rfl, ⟨rfl, (by
                    dsimp only
                    obtain ⟨y2, y3, y4⟩ := hμz
                    have h00z := y2 0 0 (by unfold LPq LD PT; (first | ((try clear h00z); (try clear y4); (try clear y3); (try clear y2); (try clear hμz); (try clear μz); (try clear hz9); (try clear lJ); (try clear rJ); (try clear vw3); (try clear vw2); (try clear vw1); (try clear v3); (try clear v2); (try clear v1); (try clear pw3); (try clear pw2); (try clear pw1); (try clear p3); (try clear p2); (try clear p1); (try clear kt2); (try clear kt1); (try clear ktk); (try clear e71k); (try clear e9k); (try clear e10k); (try clear kwT); (try clear kwB); (try clear kw); (try clear kPg); (try clear kS3); (try clear kTw); (try clear kTb); (try clear kT); (try clear k10); (try clear hQ2); (try clear c32_); (try clear hrb); (try clear hfr); (try clear hμ8); (try clear r10); (try clear hqq); (try clear c19_); (try clear hjn2); (try clear hjn); (try clear hμ6); (try clear μ6); (try clear hpp); (try clear c11_); (try clear hip2); (try clear hip); (try clear hμ2); (try clear μ2); (try clear gt2); (try clear gt1); (try clear gtk); (try clear gwT); (try clear gwB); (try clear gw); (try clear gPg); (try clear gS3); (try clear gTw); (try clear gTb); (try clear gT); (try clear g10); (try clear fwT); (try clear fwB); (try clear fw9); (try clear fPg); (try clear fS3); (try clear fTw); (try clear fTb); (try clear fT); (try clear f10); (try clear hQc); (try clear hQ1); (try clear e71); (try clear e10); (try clear ht0); (try clear x); (try clear eμ1); (try clear hQ); (try clear hsz); (try clear s₁); omega) | omega))
                    exact ⟨fr_trans hfr (fr_mono y2 (fun x y h => LPq_PS h)), by (first | ((try clear y4); (try clear y3); (try clear y2); (try clear hμz); (try clear hz9); (try clear lJ); (try clear rJ); (try clear vw3); (try clear vw2); (try clear vw1); (try clear v3); (try clear v2); (try clear v1); (try clear pw3); (try clear pw2); (try clear pw1); (try clear p3); (try clear p2); (try clear p1); (try clear kt2); (try clear kt1); (try clear ktk); (try clear e71k); (try clear e9k); (try clear e10k); (try clear kwT); (try clear kwB); (try clear kw); (try clear kPg); (try clear kS3); (try clear kTw); (try clear kTb); (try clear kT); (try clear k10); (try clear hQ2); (try clear c32_); (try clear hfr); (try clear hμ8); (try clear r10); (try clear hqq); (try clear c19_); (try clear hjn2); (try clear hjn); (try clear hμ6); (try clear μ6); (try clear hpp); (try clear c11_); (try clear hip2); (try clear hip); (try clear hμ2); (try clear μ2); (try clear gt2); (try clear gt1); (try clear gtk); (try clear gwT); (try clear gwB); (try clear gw); (try clear gPg); (try clear gS3); (try clear gTw); (try clear gTb); (try clear gT); (try clear g10); (try clear fwT); (try clear fwB); (try clear fw9); (try clear fPg); (try clear fS3); (try clear fTw); (try clear fTb); (try clear fT); (try clear f10); (try clear hQc); (try clear hQ1); (try clear e71); (try clear e10); (try clear x); (try clear eμ1); (try clear hQ); (try clear hsz); (try clear s₁); omega) | omega)⟩)⟩, by rw [ht9]; exact hP, va_K.moved hW9.alike hK⟩, hS.F ht9⟩) hS.2.2 dX10_distance_43
    · refine lv_iconst (v := iZ 1) hx hb dX10_distance_22 rfl ?_
      refine lv_goto (tgt := 27) hx hb dX10_distance_23 (by decide) ?_
      refine lv_iconst (v := iZ 1) hx hb dX10_distance_27 rfl ?_
      refine lv_iconst (v := iZ 0) hx hb dX10_distance_28 rfl ?_
      refine va_calli (va_runV (As := [.int (iZ (1)), .int (iZ (1)), .int (iZ (0))]) (rest := []) ⟨hx, hb, hml, hown, hts⟩ (m_bad2 l dC dI cI cZ cII cIII h0 H.size μ1 (1) (1) (0) (by first | assumption | (first | ((try clear c19_); (try clear hjn2); (try clear hjn); (try clear hμ6); (try clear μ6); (try clear hz9); (try clear hpp); (try clear c11_); (try clear hip2); (try clear hip); (try clear hμ2); (try clear μ2); (try clear gt2); (try clear gt1); (try clear gtk); (try clear gwT); (try clear gwB); (try clear gw); (try clear gPg); (try clear gS3); (try clear gTw); (try clear gTb); (try clear gT); (try clear g10); (try clear fwT); (try clear fwB); (try clear fw9); (try clear fPg); (try clear fS3); (try clear fTw); (try clear fTb); (try clear fT); (try clear f10); (try clear hQc); (try clear hQ1); (try clear e71); (try clear e10); (try clear ht0); (try clear x); (try clear eμ1); (try clear hQ); (try clear hsz); (try clear s₁); omega) | omega) | exact ⟨by omega, by omega⟩) (by first | assumption | (first | ((try clear c19_); (try clear hjn2); (try clear hjn); (try clear hμ6); (try clear μ6); (try clear hz9); (try clear hpp); (try clear c11_); (try clear hip2); (try clear hip); (try clear hμ2); (try clear μ2); (try clear gt2); (try clear gt1); (try clear gtk); (try clear gwT); (try clear gwB); (try clear gw); (try clear gPg); (try clear gS3); (try clear gTw); (try clear gTb); (try clear gT); (try clear g10); (try clear fwT); (try clear fwB); (try clear fw9); (try clear fPg); (try clear fS3); (try clear fTw); (try clear fTb); (try clear fT); (try clear f10); (try clear hQc); (try clear hQ1); (try clear e71); (try clear e10); (try clear ht0); (try clear x); (try clear eμ1); (try clear hQ); (try clear hsz); (try clear s₁); omega) | omega) | exact ⟨by omega, by omega⟩) (by first | assumption | (first | ((try clear c19_); (try clear hjn2); (try clear hjn); (try clear hμ6); (try clear μ6); (try clear hz9); (try clear hpp); (try clear c11_); (try clear hip2); (try clear hip); (try clear hμ2); (try clear μ2); (try clear gt2); (try clear gt1); (try clear gtk); (try clear gwT); (try clear gwB); (try clear gw); (try clear gPg); (try clear gS3); (try clear gTw); (try clear gTb); (try clear gT); (try clear g10); (try clear fwT); (try clear fwB); (try clear fw9); (try clear fPg); (try clear fS3); (try clear fTw); (try clear fTb); (try clear fT); (try clear f10); (try clear hQc); (try clear hQ1); (try clear e71); (try clear e10); (try clear ht0); (try clear x); (try clear eμ1); (try clear hQ); (try clear hsz); (try clear s₁); omega) | omega) | exact ⟨by omega, by omega⟩) (by first | assumption | omega | exact ⟨by omega, by omega⟩)) (cwV 3 hts (gV_G k1342 k1344 ks_yX10_bad k13 k1345) rfl rfl rfl (by decide +kernel) ⟨Nat.le_of_ble_eq_true rfl, Nat.le_of_ble_eq_true rfl⟩) ⟨fun a U g mk q => by obtain ⟨q0, q1, qP, qK⟩ := q; exact ⟨q0, q1, qP, va_K.moved (u := U) (U := U.calling g mk a) (Vm.Alike.refl U.vm) qK⟩, va_recv hK hP (ci := 10) (q0 := 0) rfl ((fw_get (by decide)).trans (by rw [mE_obj]; rfl)), fun U hU hW => ⟨rfl, by rw [hU], by rw [hU]; exact hP, va_K.moved hW.alike hK⟩⟩ rfl rfl hl.1 rfl (lv_room (Nat.le_of_ble_eq_true rfl)) dX10_distance_29 ⟨Nat.le_of_ble_eq_true rfl, Nat.le_of_ble_eq_true rfl⟩) hS (fun q _ h => fA_le hS.1 q h) (fA_le hS.1) (fun r9 u9 t9 H1 locs ht9 hvm9 hw9 hB9 hz9 hk9 hS => ?_)
      obtain ⟨μ11, r12⟩ := u9
      obtain ⟨hP, -⟩ := hB9
      rw [ht9] at hP
      generalize H1 = H at hP hS ⊢
      obtain ⟨e9, hw9⟩ := hw9
      have e9 : r9 = iZ r12 := e9
      subst e9
      simp only at hP hw9
      have hμ11 := hw9; clear hw9
      have hfr := fr_trans hfr (badP_fr hμ11)
      have hrb := badP_r hμ11
      obtain rfl : r12 = 1 := by (first | ((try clear hfr); (try clear hμ11); (try clear hz9); (try clear c19_); (try clear hjn2); (try clear hjn); (try clear hμ6); (try clear μ6); (try clear hpp); (try clear c11_); (try clear hip2); (try clear hip); (try clear hμ2); (try clear μ2); (try clear gt2); (try clear gt1); (try clear gtk); (try clear gwT); (try clear gwB); (try clear gw); (try clear gPg); (try clear gS3); (try clear gTw); (try clear gTb); (try clear gT); (try clear g10); (try clear fwT); (try clear fwB); (try clear fw9); (try clear fPg); (try clear fS3); (try clear fTw); (try clear fTb); (try clear fT); (try clear f10); (try clear hQc); (try clear hQ1); (try clear e71); (try clear e10); (try clear ht0); (try clear x); (try clear eμ1); (try clear hQ); (try clear hsz); (try clear s₁); omega) | omega)
      refine fz_if_eq (tgt := 37) (by decide) hx hb dX10_distance_32 (by decide) (fun h9 => absurd h9 (by decide)) (fun c32_ => ?_)
      refine lv_iconst (v := iZ 0) hx hb dX10_distance_35 rfl ?_
      exact W.iret (v := iZ (0)) hx hb hr (fun t9 ht9 hW9 => ⟨⟨iZ (0), (μ11, 0), rfl, ⟨rfl, (by
                    dsimp only
                    exact ⟨hfr, by (first | ((try clear hfr); (try clear hμ11); (try clear r12); (try clear hz9); (try clear c19_); (try clear hjn2); (try clear hjn); (try clear hμ6); (try clear μ6); (try clear hpp); (try clear c11_); (try clear hip2); (try clear hip); (try clear hμ2); (try clear μ2); (try clear gt2); (try clear gt1); (try clear gtk); (try clear gwT); (try clear gwB); (try clear gw); (try clear gPg); (try clear gS3); (try clear gTw); (try clear gTb); (try clear gT); (try clear g10); (try clear fwT); (try clear fwB); (try clear fw9); (try clear fPg); (try clear fS3); (try clear fTw); (try clear fTb); (try clear fT); (try clear f10); (try clear hQc); (try clear hQ1); (try clear e71); (try clear e10); (try clear ht0); (try clear x); (try clear eμ1); (try clear hQ); (try clear hsz); (try clear s₁); omega) | omega)⟩)⟩, by rw [ht9]; exact hP, va_K.moved hW9.alike hK⟩, hS.F ht9⟩) hS.2.2 dX10_distance_36
set_option maxHeartbeats 4000000 in
set_option maxRecDepth 100000 in
theorem LX10_nearest_37 {p : Program} {l : Launch} {e : Env} {R : Room} {s : State} {m : MethodId} {args : Array Value} {below : List Frame} {meth : Method} {c : Code} {cells slots : Nat} {Q : State → Prop} {dC : Nat → ClassId} {dI : Nat → Nat → Nat} {h0 : Nat} {cI cZ cII cIII : ClassId} (hx : p.tables.exec = Jvm.exec) (hb : c.code = cX10_nearest) (hml : c.maxLocals = 6) (hown : s.vm.findClass RX10 = some m.cls) (hts : ∀ w ∈ wsG, w.before args s = true) (hK : va_K (dC, dI) vwCl (mT cI cZ cII cIII) s) (hRf : 70 ≤ R.frames) (hRl : 2377 ≤ R.locals) (hRc : cells ≤ R.cells) (hRs : slots ≤ R.slots) (μ0 : va_M) (pp : Int) (J : Rw → Prop) (hpp : 0 ≤ pp ∧ pp < μ0 0 10) (hJK : JOK J) (h10 : 0 ≤ μ0 0 10 ∧ μ0 0 10 ≤ 8) (hPG : ∀ i : Nat, (i : Int) < μ0 0 10 → pgQ μ0 i) (hexit87 : ∀ (q : Int) (f9 : Int) (b9 : Int) (μ : va_M) (H : Heap) (locs : List Loc) (ls : Array Slot), (fr (LPq 53) μ0 μ) → va_P (dC, dI) vwCl (fw (mE cI cZ cII cIII h0) h0 6325 μ) H → va_S (fA h0 6325 s.heap.size) s.heap H locs → lv_has ls 6 [(2, .int (iZ (f9)))] → W p l e R s m args below meth c H locs cells slots Q (F0 m 87 ls [])) :
    ∀ (n9 : Nat) (q : Int) (f9 : Int) (b9 : Int) (μ : va_M) (H : Heap) (locs : List Loc) (ls : Array Slot), (fr (LPq 53) μ0 μ) → (0 ≤ q ∧ q ≤ μ0 0 10) → (0 ≤ b9 ∧ b9 ≤ 1000000) → (10 - q).toNat < n9 → va_P (dC, dI) vwCl (fw (mE cI cZ cII cIII h0) h0 6325 μ) H → va_S (fA h0 6325 s.heap.size) s.heap H locs → lv_has ls 6 [(4, .int (iZ (q))), (3, .int (iZ (b9))), (2, .int (iZ (f9))), (1, .int (iZ (pp))), (0, .ref h0)] → W p l e R s m args below meth c H locs cells slots Q (F0 m 37 ls []) := by
  intro n9
  induction n9 with
  | zero => intro q f9 b9 μ H locs ls hf hq hb1 hm9 hP hS hl; exact absurd hm9 (Nat.not_lt_zero _)
  | succ n9 ih =>
    intro q f9 b9 μ H locs ls hf hq hb1 hm9 hP hS hl
    have e10z := hf 0 10 (by unfold LPq LD PT; (first | ((try clear e10z); (try clear hm9); (try clear hb1); (try clear hq); (try clear hf); (try clear hexit87); (try clear hPG); (try clear h10); (try clear hpp); (try clear hRs); (try clear hRc); (try clear hRl); (try clear hRf); omega) | omega))
    refine lv_iload hx hb dX10_nearest_37 (lv_at hl 0 rfl) ?_
    refine lv_aload_n hx hb dX10_nearest_39 rfl (lv_at hl 4 rfl) ?_
    refine fz_get (D := (dC, dI)) (ci := 10) (v := .int (iZ (μ 0 10))) (C := RX10) (T := TX10) (N := 53) hx hb hts inG10 hown hK hP (k := 0) (by decide) (F := mF h0) mE_obj rfl 10 (by decide) (hts _ k1176) (fun _ h9 => h9) rfl dX10_nearest_40 ?_
    refine fz_icmp_ge (tgt := 87) (by constructor <;> (first | ((try clear hm9); (try clear hb1); (try clear hf); (try clear hexit87); (try clear hPG); (try clear hRs); (try clear hRc); (try clear hRl); (try clear hRf); omega) | omega)) (by constructor <;> (first | ((try clear hm9); (try clear hb1); (try clear hq); (try clear hf); (try clear hexit87); (try clear hPG); (try clear hpp); (try clear hRs); (try clear hRc); (try clear hRl); (try clear hRf); omega) | omega)) hx hb dX10_nearest_43 (by decide) (fun c43_ => ?_) (fun c43_ => ?_)
    · exact hexit87 (q) (f9) (b9) μ H locs ls (by exact hf) hP hS (lv_sub hl [2] rfl)
    · obtain ⟨p1, p2, p3, pw, pw1, pw2, pw3⟩ := hPG pp.toNat (by (first | ((try clear pw3); (try clear pw2); (try clear pw1); (try clear pw); (try clear p3); (try clear p2); (try clear p1); (try clear c43_); (try clear hm9); (try clear hb1); (try clear hq); (try clear hf); (try clear hexit87); (try clear hPG); (try clear hRs); (try clear hRc); (try clear hRl); (try clear hRf); omega) | omega))
      obtain ⟨r1, r2, r3, rv, rv1, rv2, rv3⟩ := hPG q.toNat (by (first | ((try clear rv3); (try clear rv2); (try clear rv1); (try clear rv); (try clear r3); (try clear r2); (try clear r1); (try clear pw3); (try clear pw2); (try clear pw1); (try clear p3); (try clear p2); (try clear p1); (try clear hm9); (try clear hb1); (try clear hf); (try clear hexit87); (try clear hPG); (try clear hpp); (try clear hRs); (try clear hRc); (try clear hRl); (try clear hRf); omega) | omega))
      have rJ := hJK.2.2.1 rv rv1 rv2
      have lJ := (hJK.2.2.2.1 rv pw rJ pw1 pw2).1.2.1
      refine lv_iload hx hb dX10_nearest_46 (lv_at hl 0 rfl) ?_
      refine lv_iload_n hx hb dX10_nearest_48 rfl (lv_at hl 3 rfl) ?_
      refine fz_icmp_ne (tgt := 57) (by constructor <;> (first | ((try clear lJ); (try clear rJ); (try clear rv3); (try clear rv2); (try clear rv1); (try clear r3); (try clear r2); (try clear r1); (try clear pw3); (try clear pw2); (try clear pw1); (try clear p3); (try clear p2); (try clear p1); (try clear hm9); (try clear hb1); (try clear hf); (try clear hexit87); (try clear hPG); (try clear hRs); (try clear hRc); (try clear hRl); (try clear hRf); omega) | omega)) (by constructor <;> (first | ((try clear lJ); (try clear rJ); (try clear rv3); (try clear rv2); (try clear rv1); (try clear r3); (try clear r2); (try clear r1); (try clear pw3); (try clear pw2); (try clear pw1); (try clear p3); (try clear p2); (try clear p1); (try clear c43_); (try clear hm9); (try clear hb1); (try clear hq); (try clear hf); (try clear hexit87); (try clear hPG); (try clear hRs); (try clear hRc); (try clear hRl); (try clear hRf); omega) | omega)) hx hb dX10_nearest_49 (by decide) (fun c49_ => ?_) (fun c49_ => ?_)
      · refine lv_aload_n hx hb dX10_nearest_57 rfl (lv_at hl 4 rfl) ?_
        refine lv_iload_n hx hb dX10_nearest_58 rfl (lv_at hl 3 rfl) ?_
        refine lv_iload hx hb dX10_nearest_59 (lv_at hl 0 rfl) ?_
        refine va_calli (va_runV (As := [.int (iZ (pp)), .int (iZ (q))]) (rest := []) ⟨hx, hb, hml, hown, hts⟩ (m_far l dC dI cI cZ cII cIII h0 H.size μ (pp) (q) (rv) (pw) (by (first | ((try clear c49_); (try clear lJ); (try clear rJ); (try clear rv3); (try clear rv2); (try clear rv1); (try clear r3); (try clear r2); (try clear r1); (try clear pw3); (try clear pw2); (try clear pw1); (try clear p3); (try clear p2); (try clear p1); (try clear c43_); (try clear hm9); (try clear hb1); (try clear hq); (try clear hf); (try clear hexit87); (try clear hPG); (try clear hRs); (try clear hRc); (try clear hRl); (try clear hRf); omega) | omega)) (by (first | ((try clear c49_); (try clear lJ); (try clear rJ); (try clear rv3); (try clear rv2); (try clear rv1); (try clear r3); (try clear r2); (try clear r1); (try clear pw3); (try clear pw2); (try clear pw1); (try clear p3); (try clear p2); (try clear p1); (try clear hm9); (try clear hb1); (try clear hf); (try clear hexit87); (try clear hPG); (try clear hRs); (try clear hRc); (try clear hRl); (try clear hRf); omega) | omega)) (by rw [show (17 + q).toNat = 17 + q.toNat by (first | ((try clear c49_); (try clear lJ); (try clear rJ); (try clear rv3); (try clear rv2); (try clear rv1); (try clear r3); (try clear r2); (try clear r1); (try clear pw3); (try clear pw2); (try clear pw1); (try clear p3); (try clear p2); (try clear p1); (try clear c43_); (try clear e10z); (try clear hm9); (try clear hb1); (try clear hf); (try clear hexit87); (try clear hPG); (try clear h10); (try clear hpp); (try clear hRs); (try clear hRc); (try clear hRl); (try clear hRf); omega) | omega)]; exact TR_fr rv3 hf (fun x => by unfold LPq LD PT; (first | ((try clear c49_); (try clear lJ); (try clear rJ); (try clear rv3); (try clear rv2); (try clear rv1); (try clear r3); (try clear r2); (try clear r1); (try clear pw3); (try clear pw2); (try clear pw1); (try clear p3); (try clear p2); (try clear p1); (try clear hm9); (try clear hb1); (try clear hq); (try clear hf); (try clear hexit87); (try clear hPG); (try clear hRs); (try clear hRc); (try clear hRl); (try clear hRf); omega) | omega)) (by unfold LPq LD PT; (first | ((try clear c49_); (try clear lJ); (try clear rJ); (try clear rv3); (try clear rv2); (try clear rv1); (try clear r3); (try clear r2); (try clear r1); (try clear pw3); (try clear pw2); (try clear pw1); (try clear p3); (try clear p2); (try clear p1); (try clear hm9); (try clear hb1); (try clear hq); (try clear hf); (try clear hexit87); (try clear hPG); (try clear hRs); (try clear hRc); (try clear hRl); (try clear hRf); omega) | omega))) (by exact rv1) (by rw [show (17 + pp).toNat = 17 + pp.toNat by (first | ((try clear c49_); (try clear lJ); (try clear rJ); (try clear rv3); (try clear rv2); (try clear rv1); (try clear r3); (try clear r2); (try clear r1); (try clear pw3); (try clear pw2); (try clear pw1); (try clear p3); (try clear p2); (try clear p1); (try clear c43_); (try clear e10z); (try clear hm9); (try clear hb1); (try clear hq); (try clear hf); (try clear hexit87); (try clear hPG); (try clear h10); (try clear hRs); (try clear hRc); (try clear hRl); (try clear hRf); omega) | omega)]; exact TR_fr pw3 hf (fun x => by unfold LPq LD PT; (first | ((try clear c49_); (try clear lJ); (try clear rJ); (try clear rv3); (try clear rv2); (try clear rv1); (try clear r3); (try clear r2); (try clear r1); (try clear pw3); (try clear pw2); (try clear pw1); (try clear p3); (try clear p2); (try clear p1); (try clear hm9); (try clear hb1); (try clear hf); (try clear hexit87); (try clear hPG); (try clear hRs); (try clear hRc); (try clear hRl); (try clear hRf); omega) | omega)) (by unfold LPq LD PT; (first | ((try clear c49_); (try clear lJ); (try clear rJ); (try clear rv3); (try clear rv2); (try clear rv1); (try clear r3); (try clear r2); (try clear r1); (try clear pw3); (try clear pw2); (try clear pw1); (try clear p3); (try clear p2); (try clear p1); (try clear hm9); (try clear hb1); (try clear hf); (try clear hexit87); (try clear hPG); (try clear hRs); (try clear hRc); (try clear hRl); (try clear hRf); omega) | omega))) (by exact pw1) (by exact lJ)) (cwV 2 hts (gV_G k1703 k1705 ks_yX10_far k13 k1706) rfl rfl rfl (by decide +kernel) ⟨by show 69 + 1 ≤ _; (first | ((try clear c49_); (try clear lJ); (try clear rJ); (try clear rv3); (try clear rv2); (try clear rv1); (try clear rv); (try clear r3); (try clear r2); (try clear r1); (try clear pw3); (try clear pw2); (try clear pw1); (try clear pw); (try clear p3); (try clear p2); (try clear p1); (try clear c43_); (try clear e10z); (try clear hm9); (try clear hb1); (try clear hq); (try clear hf); (try clear hexit87); (try clear hPG); (try clear h10); (try clear hpp); (try clear hRs); (try clear hRc); (try clear hRl); omega) | omega), by show 8 + (3 + 11) + (2355) ≤ _; (first | ((try clear c49_); (try clear lJ); (try clear rJ); (try clear rv3); (try clear rv2); (try clear rv1); (try clear rv); (try clear r3); (try clear r2); (try clear r1); (try clear pw3); (try clear pw2); (try clear pw1); (try clear pw); (try clear p3); (try clear p2); (try clear p1); (try clear c43_); (try clear e10z); (try clear hm9); (try clear hb1); (try clear hq); (try clear hf); (try clear hexit87); (try clear hPG); (try clear h10); (try clear hpp); (try clear hRs); (try clear hRc); (try clear hRf); omega) | omega)⟩) ⟨fun a U g mk q => by obtain ⟨q0, q1, qP, qK⟩ := q; exact ⟨q0, q1, qP, va_K.moved (u := U) (U := U.calling g mk a) (Vm.Alike.refl U.vm) qK⟩, va_recv hK hP (ci := 10) (q0 := 0) rfl ((fw_get (by decide)).trans (by rw [mE_obj]; rfl)), fun U hU hW => ⟨rfl, by rw [hU], by rw [hU]; exact hP, va_K.moved hW.alike hK⟩⟩ rfl rfl hl.1 rfl (lv_room (Nat.le_of_ble_eq_true rfl)) dX10_nearest_61 ⟨hRc, hRs⟩) hS (fun q _ h => fA_le hS.1 q h) (fA_le hS.1) (fun r9 u9 t9 H1 locs ht9 hvm9 hw9 hB9 hz9 hk9 hS => ?_)
        obtain ⟨μz, rz⟩ := u9
        obtain ⟨hP, -⟩ := hB9
        rw [ht9] at hP
        generalize H1 = H at hP hS ⊢
        obtain ⟨e9, hw9⟩ := hw9
        have e9 : r9 = iZ rz := e9
        subst e9
        simp only at hP hw9
        have hμz := hw9; clear hw9
        obtain ⟨y2, y3, y4⟩ := hμz
        have hf := fr_trans hf y2
        refine lv_istore (lv' := [(5, .int (iZ (rz))), (4, .int (iZ (q))), (3, .int (iZ (b9))), (2, .int (iZ (f9))), (1, .int (iZ (pp))), (0, .ref h0)]) hx hb dX10_nearest_64 hl (by decide) rfl (fun ls hl => ?_)
        refine lv_iload hx hb dX10_nearest_66 (lv_at hl 0 rfl) ?_
        refine lv_iload_n hx hb dX10_nearest_68 rfl (lv_at hl 2 rfl) ?_
        refine fz_icmp_lt (tgt := 75) (by constructor <;> (first | ((try clear hf); (try clear y2); (try clear hμz); (try clear μz); (try clear hz9); (try clear c49_); (try clear lJ); (try clear rJ); (try clear rv3); (try clear rv2); (try clear rv1); (try clear r3); (try clear r2); (try clear r1); (try clear pw3); (try clear pw2); (try clear pw1); (try clear p3); (try clear p2); (try clear p1); (try clear c43_); (try clear e10z); (try clear hm9); (try clear hb1); (try clear hq); (try clear hexit87); (try clear hPG); (try clear h10); (try clear hpp); (try clear hRs); (try clear hRc); (try clear hRl); (try clear hRf); omega) | omega)) (by constructor <;> (first | ((try clear hf); (try clear y4); (try clear y3); (try clear y2); (try clear hμz); (try clear μz); (try clear hz9); (try clear c49_); (try clear lJ); (try clear rJ); (try clear rv3); (try clear rv2); (try clear rv1); (try clear r3); (try clear r2); (try clear r1); (try clear pw3); (try clear pw2); (try clear pw1); (try clear p3); (try clear p2); (try clear p1); (try clear c43_); (try clear e10z); (try clear hm9); (try clear hq); (try clear hexit87); (try clear hPG); (try clear h10); (try clear hpp); (try clear hRs); (try clear hRc); (try clear hRl); (try clear hRf); omega) | omega)) hx hb dX10_nearest_69 (by decide) (fun c69_ => ?_) (fun c69_ => ?_)
        · refine lv_iload hx hb dX10_nearest_75 (lv_at hl 1 rfl) ?_
          refine lv_istore_n (lv' := [(2, .int (iZ (q))), (5, .int (iZ (rz))), (4, .int (iZ (q))), (3, .int (iZ (b9))), (1, .int (iZ (pp))), (0, .ref h0)]) hx hb dX10_nearest_77 rfl hl (by decide) rfl (fun ls hl => ?_)
          refine lv_iload hx hb dX10_nearest_78 (lv_at hl 1 rfl) ?_
          refine lv_istore_n (lv' := [(3, .int (iZ (rz))), (2, .int (iZ (q))), (5, .int (iZ (rz))), (4, .int (iZ (q))), (1, .int (iZ (pp))), (0, .ref h0)]) hx hb dX10_nearest_80 rfl hl (by decide) rfl (fun ls hl => ?_)
          refine lv_iinc (v := iZ (q + 1)) (lv' := [(4, .int (iZ (q + 1))), (3, .int (iZ (rz))), (2, .int (iZ (q))), (5, .int (iZ (rz))), (1, .int (iZ (pp))), (0, .ref h0)]) hx hb dX10_nearest_81 hl (k := 3) rfl (iZ_add _ _) (by decide) rfl (fun ls hl => ?_)
          refine lv_goto (tgt := 37) hx hb dX10_nearest_84 (by decide) ?_
          exact ih (q + 1) (q) (rz) μz H locs ls (by exact hf) (by (first | ((try clear c69_); (try clear hf); (try clear y4); (try clear y3); (try clear y2); (try clear hμz); (try clear μz); (try clear hz9); (try clear c49_); (try clear lJ); (try clear rJ); (try clear rv3); (try clear rv2); (try clear rv1); (try clear r3); (try clear r2); (try clear r1); (try clear pw3); (try clear pw2); (try clear pw1); (try clear p3); (try clear p2); (try clear p1); (try clear hm9); (try clear hb1); (try clear hexit87); (try clear hPG); (try clear h10); (try clear hpp); (try clear hRs); (try clear hRc); (try clear hRl); (try clear hRf); omega) | omega)) (by (first | ((try clear c69_); (try clear hf); (try clear y2); (try clear hμz); (try clear μz); (try clear hz9); (try clear c49_); (try clear lJ); (try clear rJ); (try clear rv3); (try clear rv2); (try clear rv1); (try clear r3); (try clear r2); (try clear r1); (try clear pw3); (try clear pw2); (try clear pw1); (try clear p3); (try clear p2); (try clear p1); (try clear c43_); (try clear e10z); (try clear hm9); (try clear hb1); (try clear hq); (try clear hexit87); (try clear hPG); (try clear h10); (try clear hpp); (try clear hRs); (try clear hRc); (try clear hRl); (try clear hRf); omega) | omega)) (by (first | ((try clear c69_); (try clear hf); (try clear y4); (try clear y3); (try clear y2); (try clear hμz); (try clear μz); (try clear hz9); (try clear lJ); (try clear rJ); (try clear rv3); (try clear rv2); (try clear rv1); (try clear r3); (try clear r2); (try clear r1); (try clear pw3); (try clear pw2); (try clear pw1); (try clear p3); (try clear p2); (try clear p1); (try clear hb1); (try clear hexit87); (try clear hPG); (try clear hRs); (try clear hRc); (try clear hRl); (try clear hRf); omega) | omega)) hP hS (lv_sub hl [0, 1, 2, 4, 5] rfl)
        · refine lv_goto (tgt := 81) hx hb dX10_nearest_72 (by decide) ?_
          refine lv_iinc (v := iZ (q + 1)) (lv' := [(4, .int (iZ (q + 1))), (5, .int (iZ (rz))), (3, .int (iZ (b9))), (2, .int (iZ (f9))), (1, .int (iZ (pp))), (0, .ref h0)]) hx hb dX10_nearest_81 hl (k := 1) rfl (iZ_add _ _) (by decide) rfl (fun ls hl => ?_)
          refine lv_goto (tgt := 37) hx hb dX10_nearest_84 (by decide) ?_
          exact ih (q + 1) (f9) (b9) μz H locs ls (by exact hf) (by (first | ((try clear c69_); (try clear hf); (try clear y4); (try clear y3); (try clear y2); (try clear hμz); (try clear μz); (try clear hz9); (try clear c49_); (try clear lJ); (try clear rJ); (try clear rv3); (try clear rv2); (try clear rv1); (try clear r3); (try clear r2); (try clear r1); (try clear pw3); (try clear pw2); (try clear pw1); (try clear p3); (try clear p2); (try clear p1); (try clear hm9); (try clear hb1); (try clear hexit87); (try clear hPG); (try clear h10); (try clear hpp); (try clear hRs); (try clear hRc); (try clear hRl); (try clear hRf); omega) | omega)) (by (first | ((try clear c69_); (try clear hf); (try clear y4); (try clear y3); (try clear y2); (try clear hμz); (try clear rz); (try clear μz); (try clear hz9); (try clear c49_); (try clear lJ); (try clear rJ); (try clear rv3); (try clear rv2); (try clear rv1); (try clear rv); (try clear r3); (try clear r2); (try clear r1); (try clear pw3); (try clear pw2); (try clear pw1); (try clear pw); (try clear p3); (try clear p2); (try clear p1); (try clear c43_); (try clear e10z); (try clear hm9); (try clear hq); (try clear hexit87); (try clear hPG); (try clear h10); (try clear hpp); (try clear hRs); (try clear hRc); (try clear hRl); (try clear hRf); omega) | omega)) (by (first | ((try clear c69_); (try clear hf); (try clear y4); (try clear y3); (try clear y2); (try clear hμz); (try clear μz); (try clear hz9); (try clear lJ); (try clear rJ); (try clear rv3); (try clear rv2); (try clear rv1); (try clear r3); (try clear r2); (try clear r1); (try clear pw3); (try clear pw2); (try clear pw1); (try clear p3); (try clear p2); (try clear p1); (try clear hb1); (try clear hexit87); (try clear hPG); (try clear hRs); (try clear hRc); (try clear hRl); (try clear hRf); omega) | omega)) hP hS (lv_sub hl [0, 2, 3, 4, 5] rfl)
      · refine lv_ldc (v := iZ 1000000) hx hb hown (hts _ k1551) dX10_nearest_52 ?_
        refine lv_goto (tgt := 64) hx hb dX10_nearest_54 (by decide) ?_
        refine lv_istore (lv' := [(5, .int (iZ (1000000))), (4, .int (iZ (q))), (3, .int (iZ (b9))), (2, .int (iZ (f9))), (1, .int (iZ (pp))), (0, .ref h0)]) hx hb dX10_nearest_64 hl (by decide) rfl (fun ls hl => ?_)
        refine lv_iload hx hb dX10_nearest_66 (lv_at hl 0 rfl) ?_
        refine lv_iload_n hx hb dX10_nearest_68 rfl (lv_at hl 2 rfl) ?_
        refine fz_icmp_lt (tgt := 75) (by decide) (by constructor <;> (first | ((try clear c49_); (try clear lJ); (try clear rJ); (try clear rv3); (try clear rv2); (try clear rv1); (try clear r3); (try clear r2); (try clear r1); (try clear pw3); (try clear pw2); (try clear pw1); (try clear p3); (try clear p2); (try clear p1); (try clear c43_); (try clear e10z); (try clear hm9); (try clear hq); (try clear hf); (try clear hexit87); (try clear hPG); (try clear h10); (try clear hpp); (try clear hRs); (try clear hRc); (try clear hRl); (try clear hRf); omega) | omega)) hx hb dX10_nearest_69 (by decide) (fun c69_ => ?_) (fun c69_ => ?_)
        · refine lv_iload hx hb dX10_nearest_75 (lv_at hl 1 rfl) ?_
          refine lv_istore_n (lv' := [(2, .int (iZ (q))), (5, .int (iZ (1000000))), (4, .int (iZ (q))), (3, .int (iZ (b9))), (1, .int (iZ (pp))), (0, .ref h0)]) hx hb dX10_nearest_77 rfl hl (by decide) rfl (fun ls hl => ?_)
          refine lv_iload hx hb dX10_nearest_78 (lv_at hl 1 rfl) ?_
          refine lv_istore_n (lv' := [(3, .int (iZ (1000000))), (2, .int (iZ (q))), (5, .int (iZ (1000000))), (4, .int (iZ (q))), (1, .int (iZ (pp))), (0, .ref h0)]) hx hb dX10_nearest_80 rfl hl (by decide) rfl (fun ls hl => ?_)
          refine lv_iinc (v := iZ (q + 1)) (lv' := [(4, .int (iZ (q + 1))), (3, .int (iZ (1000000))), (2, .int (iZ (q))), (5, .int (iZ (1000000))), (1, .int (iZ (pp))), (0, .ref h0)]) hx hb dX10_nearest_81 hl (k := 3) rfl (iZ_add _ _) (by decide) rfl (fun ls hl => ?_)
          refine lv_goto (tgt := 37) hx hb dX10_nearest_84 (by decide) ?_
          exact ih (q + 1) (q) (1000000) μ H locs ls (by exact hf) (by (first | ((try clear c49_); (try clear lJ); (try clear rJ); (try clear rv3); (try clear rv2); (try clear rv1); (try clear r3); (try clear r2); (try clear r1); (try clear pw3); (try clear pw2); (try clear pw1); (try clear p3); (try clear p2); (try clear p1); (try clear c43_); (try clear e10z); (try clear hm9); (try clear hq); (try clear hf); (try clear hexit87); (try clear hPG); (try clear h10); (try clear hpp); (try clear hRs); (try clear hRc); (try clear hRl); (try clear hRf); omega) | omega)) (by (first | ((try clear c49_); (try clear lJ); (try clear rJ); (try clear rv3); (try clear rv2); (try clear rv1); (try clear r3); (try clear r2); (try clear r1); (try clear pw3); (try clear pw2); (try clear pw1); (try clear p3); (try clear p2); (try clear p1); (try clear c43_); (try clear e10z); (try clear hm9); (try clear hq); (try clear hf); (try clear hexit87); (try clear hPG); (try clear h10); (try clear hpp); (try clear hRs); (try clear hRc); (try clear hRl); (try clear hRf); omega) | omega)) (by (first | ((try clear c49_); (try clear lJ); (try clear rJ); (try clear rv3); (try clear rv2); (try clear rv1); (try clear r3); (try clear r2); (try clear r1); (try clear pw3); (try clear pw2); (try clear pw1); (try clear p3); (try clear p2); (try clear p1); (try clear c43_); (try clear e10z); (try clear hm9); (try clear hq); (try clear hf); (try clear hexit87); (try clear hPG); (try clear h10); (try clear hpp); (try clear hRs); (try clear hRc); (try clear hRl); (try clear hRf); omega) | omega)) hP hS (lv_sub hl [0, 1, 2, 4, 5] rfl)
        · refine lv_goto (tgt := 81) hx hb dX10_nearest_72 (by decide) ?_
          refine lv_iinc (v := iZ (q + 1)) (lv' := [(4, .int (iZ (q + 1))), (5, .int (iZ (1000000))), (3, .int (iZ (b9))), (2, .int (iZ (f9))), (1, .int (iZ (pp))), (0, .ref h0)]) hx hb dX10_nearest_81 hl (k := 1) rfl (iZ_add _ _) (by decide) rfl (fun ls hl => ?_)
          refine lv_goto (tgt := 37) hx hb dX10_nearest_84 (by decide) ?_
          exact ih (q + 1) (f9) (b9) μ H locs ls (by exact hf) (by (first | ((try clear c69_); (try clear lJ); (try clear rJ); (try clear rv3); (try clear rv2); (try clear rv1); (try clear r3); (try clear r2); (try clear r1); (try clear pw3); (try clear pw2); (try clear pw1); (try clear p3); (try clear p2); (try clear p1); (try clear hm9); (try clear hb1); (try clear hq); (try clear hf); (try clear hexit87); (try clear hPG); (try clear h10); (try clear hRs); (try clear hRc); (try clear hRl); (try clear hRf); omega) | omega)) (by (first | ((try clear c69_); (try clear c49_); (try clear lJ); (try clear rJ); (try clear rv3); (try clear rv2); (try clear rv1); (try clear rv); (try clear r3); (try clear r2); (try clear r1); (try clear pw3); (try clear pw2); (try clear pw1); (try clear pw); (try clear p3); (try clear p2); (try clear p1); (try clear c43_); (try clear e10z); (try clear hm9); (try clear hq); (try clear hf); (try clear hexit87); (try clear hPG); (try clear h10); (try clear hpp); (try clear hRs); (try clear hRc); (try clear hRl); (try clear hRf); omega) | omega)) (by (first | ((try clear c69_); (try clear lJ); (try clear rJ); (try clear rv3); (try clear rv2); (try clear rv1); (try clear r3); (try clear r2); (try clear r1); (try clear pw3); (try clear pw2); (try clear pw1); (try clear p3); (try clear p2); (try clear p1); (try clear hb1); (try clear hq); (try clear hf); (try clear hexit87); (try clear hPG); (try clear hRs); (try clear hRc); (try clear hRl); (try clear hRf); omega) | omega)) hP hS (lv_sub hl [0, 2, 3, 4, 5] rfl)
set_option maxHeartbeats 4000000 in
set_option maxRecDepth 100000 in
theorem m_nearest (l : Launch) (dC : Nat → ClassId) (dI : Nat → Nat → Nat) (cI cZ cII cIII : ClassId) (h0 sz : Nat) (μ : va_M) (pp : Int) (J : Rw → Prop) (hR : RI J μ) (hJK : JOK J) (hp : inR pp) : Met l yX10_nearest (Cond.code yX10_nearest cX10_nearest 6 (some .int) :: wsG) ({ frames := 70, cells := 0, slots := 0, locals := 2377 } : Room) (va_Pc [.ref h0, .int (iZ (pp))] (fun U => U.heap.size = sz ∧ va_P (dC, dI) vwCl (fw (mE cI cZ cII cIII h0) h0 6325 μ) U.heap ∧ va_K (dC, dI) vwCl (mT cI cZ cII cIII) U)) (va_Qi (fun (r9 : Int32) (u : va_M × Int) => r9 = iZ u.2 ∧ (fun (u : va_M) (r : Int) => fr PS μ u ∧ (u 0 0 = 0 ∨ u 0 0 = 1 ∨ u 0 0 = 2)) u.1 u.2) (fun u t => va_P (dC, dI) vwCl (fw (mE cI cZ cII cIII h0) h0 6325 u.1) t.heap ∧ va_K (dC, dI) vwCl (mT cI cZ cII cIII) t) (fA h0 6325 sz)) 0 0 (fA h0 6325 sz) := by
  refine Met.ofW (cc := cX10_nearest) (maxL := 6) (ret := (some .int)) (by decide) rfl ?_
  intro p e s m args below meth c s₁ B hml hv
  obtain ⟨rfl, hsz, hP, hK⟩ := hv
  have hx := B.exec
  have hb := B.bytes
  have hr := B.returns
  have hts : ∀ w ∈ wsG, w.before _ s = true := hG_of (atoms_spec (ws := (Cond.code yX10_nearest cX10_nearest 6 (some .int) :: wsG)) B.pre)
  have hown : s.vm.findClass RX10 = some m.cls := findClass_of_methodNamed B.named
  have hlocks := B.notSynchronized
  subst hsz
  have hS : va_S (fA h0 6325 s.heap.size) s.heap s.heap [] := va_S.rf
  have hl := lv_entry ([.ref h0, .int (iZ (pp))]) (n := 6) (Nat.le_of_ble_eq_true rfl)
  rw [lg_entry_eq]
  generalize (lg_sl ([.ref h0, .int (iZ (pp))]) ++ List.replicate (6 - (lg_sl ([.ref h0, .int (iZ (pp))])).length) Slot.unset).toArray = ls at hl ⊢
  have hl : lv_has ls 6 [(0, .ref h0), (1, .int (iZ (pp)))] := hl
  have hQ := hR.1
  refine lv_aload_n hx hb dX10_nearest_0 rfl (lv_at hl 0 rfl) ?_
  refine lv_iconst (v := iZ 0) hx hb dX10_nearest_1 rfl ?_
  refine fz_put (D := (dC, dI)) (ci := 10) (ty := .int) (z := 0) (C := RX10) (T := TX10) (N := 53) hx hb hts inG10 tyX10 tyX10_ok nmX10 hown hK hP fA_in hS (k := 0) (by decide) (F := mF h0) mE_obj rfl 0 (by decide) (hts _ k1166) (fun _ h9 => h9) rfl (by decide +kernel) rfl rfl (fun _ => Nat.le_of_ble_eq_true rfl) (fun _ _ => rfl) dX10_nearest_2 (fun H locs hP hS => ?_)
  obtain ⟨μ1, eμ1⟩ : ∃ x : va_M, x = uz μ 0 0 (0) := ⟨_, rfl⟩
  rw [← eμ1] at hP
  have hfr : fr PS μ μ1 := by rw [eμ1]; exact fr_uz fr_rfl (by unfold PS; (first | ((try clear x); (try clear eμ1); (try clear μ1); (try clear hQ); (try clear hsz); (try clear s₁); omega) | omega))
  have ht0 : μ1 0 0 = 0 := by rw [eμ1, uz_s]
  have e10 := hfr 0 10 (PS_n (by (first | ((try clear e10); (try clear ht0); (try clear x); (try clear eμ1); (try clear hQ); (try clear hsz); (try clear s₁); omega) | omega)))
  have e9 := hfr 0 9 (PS_n (by (first | ((try clear e10); (try clear ht0); (try clear x); (try clear eμ1); (try clear hQ); (try clear hsz); (try clear s₁); omega) | omega)))
  have e71 := hfr 719 0 (PS_n (by (first | ((try clear e71); (try clear e10); (try clear ht0); (try clear x); (try clear eμ1); (try clear hQ); (try clear hsz); (try clear s₁); omega) | omega)))
  have hQ1 := RQ_fr hQ hfr
  have hQc := hQ
  obtain ⟨f10, ⟨fT, fTb, fTw⟩, fS3, fPg, fw9, fwB, fwT⟩ := hQc
  obtain ⟨g10, ⟨gT, gTb, gTw⟩, gS3, gPg, gw, gwB, gwT⟩ := hQ1
  have gtk := TR_tok gwT gwB.1 gwB.2.1
  have gt1 := gtk.1
  have gt2 := gtk.2.1
  refine lv_aload_n hx hb dX10_nearest_5 rfl (lv_at hl 0 rfl) ?_
  refine lv_aload_n hx hb dX10_nearest_6 rfl (lv_at hl 0 rfl) ?_
  refine lv_iload_n hx hb dX10_nearest_7 rfl (lv_at hl 1 rfl) ?_
  refine va_calli (va_runV (As := [.int (iZ (pp))]) (rest := [.ref h0]) ⟨hx, hb, hml, hown, hts⟩ (m_isPage l dC dI cI cZ cII cIII h0 H.size μ1 (pp) (by first | assumption | omega | exact ⟨by omega, by omega⟩) (by first | assumption | omega | exact ⟨by omega, by omega⟩)) (cwV 1 hts (gV_G k1588 k1590 ks_yX10_isPage k13 k1591) rfl rfl rfl (by decide +kernel) ⟨Nat.le_of_ble_eq_true rfl, Nat.le_of_ble_eq_true rfl⟩) ⟨fun a U g mk q => by obtain ⟨q0, q1, qP, qK⟩ := q; exact ⟨q0, q1, qP, va_K.moved (u := U) (U := U.calling g mk a) (Vm.Alike.refl U.vm) qK⟩, va_recv hK hP (ci := 10) (q0 := 0) rfl ((fw_get (by decide)).trans (by rw [mE_obj]; rfl)), fun U hU hW => ⟨rfl, by rw [hU], by rw [hU]; exact hP, va_K.moved hW.alike hK⟩⟩ rfl rfl hl.1 rfl (lv_room (Nat.le_of_ble_eq_true rfl)) dX10_nearest_8 ⟨Nat.le_of_ble_eq_true rfl, Nat.le_of_ble_eq_true rfl⟩) hS (fun q _ h => fA_le hS.1 q h) (fA_le hS.1) (fun r9 u9 t9 H1 locs ht9 hvm9 hw9 hB9 hz9 hk9 hS => ?_)
  obtain ⟨μ2, r3⟩ := u9
  obtain ⟨hP, -⟩ := hB9
  rw [ht9] at hP
  generalize H1 = H at hP hS ⊢
  obtain ⟨e9, hw9⟩ := hw9
  have e9 : r9 = iZ r3 := e9
  subst e9
  simp only at hP hw9
  have hμ2 := hw9; clear hw9
  rw [hμ2.1] at hP; have hμ2 := hμ2.2
  have hip := hμ2
  have hip2 := if_01 hμ2
  refine fz_if_ne (tgt := 18) (by constructor <;> (first | ((try clear hip); (try clear hμ2); (try clear hz9); (try clear gt2); (try clear gt1); (try clear gtk); (try clear gwT); (try clear gwB); (try clear gw); (try clear gPg); (try clear gS3); (try clear gTw); (try clear gTb); (try clear gT); (try clear g10); (try clear fwT); (try clear fwB); (try clear fw9); (try clear fPg); (try clear fS3); (try clear fTw); (try clear fTb); (try clear fT); (try clear f10); (try clear hQc); (try clear hQ1); (try clear e71); (try clear e10); (try clear ht0); (try clear x); (try clear eμ1); (try clear hQ); (try clear hsz); (try clear s₁); omega) | omega)) hx hb dX10_nearest_11 (by decide) (fun c11_ => ?_) (fun c11_ => ?_)
  · have hpp := if_get hip (by (first | ((try clear hpp); (try clear hip2); (try clear hip); (try clear hμ2); (try clear r3); (try clear μ2); (try clear hz9); (try clear gt2); (try clear gt1); (try clear gtk); (try clear gwT); (try clear gwB); (try clear gw); (try clear gPg); (try clear gS3); (try clear gTw); (try clear gTb); (try clear gT); (try clear g10); (try clear fwT); (try clear fwB); (try clear fw9); (try clear fPg); (try clear fS3); (try clear fTw); (try clear fTb); (try clear fT); (try clear f10); (try clear hQc); (try clear hQ1); (try clear e71); (try clear e10); (try clear ht0); (try clear x); (try clear eμ1); (try clear μ1); (try clear hQ); (try clear hsz); (try clear s₁); omega) | omega))
    refine lv_iconst (v := iZ 0) hx hb dX10_nearest_18 rfl ?_
    refine lv_iconst (v := iZ 1) hx hb dX10_nearest_19 rfl ?_
    refine lv_iconst (v := iZ 0) hx hb dX10_nearest_20 rfl ?_
    refine va_calli (va_runV (As := [.int (iZ (0)), .int (iZ (1)), .int (iZ (0))]) (rest := []) ⟨hx, hb, hml, hown, hts⟩ (m_bad2 l dC dI cI cZ cII cIII h0 H.size μ1 (0) (1) (0) (by first | assumption | (first | ((try clear hpp); (try clear c11_); (try clear hip2); (try clear hip); (try clear hμ2); (try clear μ2); (try clear hz9); (try clear gt2); (try clear gt1); (try clear gtk); (try clear gwT); (try clear gwB); (try clear gw); (try clear gPg); (try clear gS3); (try clear gTw); (try clear gTb); (try clear gT); (try clear g10); (try clear fwT); (try clear fwB); (try clear fw9); (try clear fPg); (try clear fS3); (try clear fTw); (try clear fTb); (try clear fT); (try clear f10); (try clear hQc); (try clear hQ1); (try clear e71); (try clear e10); (try clear ht0); (try clear x); (try clear eμ1); (try clear hQ); (try clear hsz); (try clear s₁); omega) | omega) | exact ⟨by omega, by omega⟩) (by first | assumption | (first | ((try clear hpp); (try clear c11_); (try clear hip2); (try clear hip); (try clear hμ2); (try clear μ2); (try clear hz9); (try clear gt2); (try clear gt1); (try clear gtk); (try clear gwT); (try clear gwB); (try clear gw); (try clear gPg); (try clear gS3); (try clear gTw); (try clear gTb); (try clear gT); (try clear g10); (try clear fwT); (try clear fwB); (try clear fw9); (try clear fPg); (try clear fS3); (try clear fTw); (try clear fTb); (try clear fT); (try clear f10); (try clear hQc); (try clear hQ1); (try clear e71); (try clear e10); (try clear ht0); (try clear x); (try clear eμ1); (try clear hQ); (try clear hsz); (try clear s₁); omega) | omega) | exact ⟨by omega, by omega⟩) (by first | assumption | (first | ((try clear hpp); (try clear c11_); (try clear hip2); (try clear hip); (try clear hμ2); (try clear μ2); (try clear hz9); (try clear gt2); (try clear gt1); (try clear gtk); (try clear gwT); (try clear gwB); (try clear gw); (try clear gPg); (try clear gS3); (try clear gTw); (try clear gTb); (try clear gT); (try clear g10); (try clear fwT); (try clear fwB); (try clear fw9); (try clear fPg); (try clear fS3); (try clear fTw); (try clear fTb); (try clear fT); (try clear f10); (try clear hQc); (try clear hQ1); (try clear e71); (try clear e10); (try clear ht0); (try clear x); (try clear eμ1); (try clear hQ); (try clear hsz); (try clear s₁); omega) | omega) | exact ⟨by omega, by omega⟩) (by first | assumption | omega | exact ⟨by omega, by omega⟩)) (cwV 3 hts (gV_G k1342 k1344 ks_yX10_bad k13 k1345) rfl rfl rfl (by decide +kernel) ⟨Nat.le_of_ble_eq_true rfl, Nat.le_of_ble_eq_true rfl⟩) ⟨fun a U g mk q => by obtain ⟨q0, q1, qP, qK⟩ := q; exact ⟨q0, q1, qP, va_K.moved (u := U) (U := U.calling g mk a) (Vm.Alike.refl U.vm) qK⟩, va_recv hK hP (ci := 10) (q0 := 0) rfl ((fw_get (by decide)).trans (by rw [mE_obj]; rfl)), fun U hU hW => ⟨rfl, by rw [hU], by rw [hU]; exact hP, va_K.moved hW.alike hK⟩⟩ rfl rfl hl.1 rfl (lv_room (Nat.le_of_ble_eq_true rfl)) dX10_nearest_21 ⟨Nat.le_of_ble_eq_true rfl, Nat.le_of_ble_eq_true rfl⟩) hS (fun q _ h => fA_le hS.1 q h) (fA_le hS.1) (fun r9 u9 t9 H1 locs ht9 hvm9 hw9 hB9 hz9 hk9 hS => ?_)
    obtain ⟨μ4, r5⟩ := u9
    obtain ⟨hP, -⟩ := hB9
    rw [ht9] at hP
    generalize H1 = H at hP hS ⊢
    obtain ⟨e9, hw9⟩ := hw9
    have e9 : r9 = iZ r5 := e9
    subst e9
    simp only at hP hw9
    have hμ4 := hw9; clear hw9
    have hfr := fr_trans hfr (badP_fr hμ4)
    have hrb := badP_r hμ4
    obtain rfl : r5 = 0 := by (first | ((try clear hfr); (try clear hμ4); (try clear hz9); (try clear hpp); (try clear c11_); (try clear hip2); (try clear hip); (try clear hμ2); (try clear μ2); (try clear gt2); (try clear gt1); (try clear gtk); (try clear gwT); (try clear gwB); (try clear gw); (try clear gPg); (try clear gS3); (try clear gTw); (try clear gTb); (try clear gT); (try clear g10); (try clear fwT); (try clear fwB); (try clear fw9); (try clear fPg); (try clear fS3); (try clear fTw); (try clear fTb); (try clear fT); (try clear f10); (try clear hQc); (try clear hQ1); (try clear e71); (try clear e10); (try clear ht0); (try clear x); (try clear eμ1); (try clear hQ); (try clear hsz); (try clear s₁); omega) | omega)
    refine fz_if_eq (tgt := 29) (by decide) hx hb dX10_nearest_24 (by decide) (fun c24_ => ?_) (fun h9 => absurd h9 (by decide))
    have hQ2 := RQ_fr hQ hfr
    obtain ⟨k10, ⟨kT, kTb, kTw⟩, kS3, kPg, kw, kwB, kwT⟩ := hQ2
    have e10k := hfr 0 10 (PS_n (by (first | ((try clear e10k); (try clear kwT); (try clear kwB); (try clear kw); (try clear kPg); (try clear kS3); (try clear kTw); (try clear kTb); (try clear kT); (try clear k10); (try clear hQ2); (try clear c24_); (try clear hrb); (try clear hfr); (try clear hμ4); (try clear r5); (try clear hz9); (try clear hpp); (try clear c11_); (try clear hip2); (try clear hip); (try clear hμ2); (try clear μ2); (try clear gt2); (try clear gt1); (try clear gtk); (try clear gwT); (try clear gwB); (try clear gw); (try clear gPg); (try clear gS3); (try clear gTw); (try clear gTb); (try clear gT); (try clear g10); (try clear fwT); (try clear fwB); (try clear fw9); (try clear fPg); (try clear fS3); (try clear fTw); (try clear fTb); (try clear fT); (try clear f10); (try clear hQc); (try clear hQ1); (try clear e71); (try clear e10); (try clear ht0); (try clear x); (try clear eμ1); (try clear hQ); (try clear hsz); (try clear s₁); omega) | omega)))
    have e9k := hfr 0 9 (PS_n (by (first | ((try clear e9k); (try clear e10k); (try clear kwT); (try clear kwB); (try clear kw); (try clear kPg); (try clear kS3); (try clear kTw); (try clear kTb); (try clear kT); (try clear k10); (try clear hQ2); (try clear c24_); (try clear hrb); (try clear hfr); (try clear hμ4); (try clear r5); (try clear hz9); (try clear hpp); (try clear c11_); (try clear hip2); (try clear hip); (try clear hμ2); (try clear μ2); (try clear gt2); (try clear gt1); (try clear gtk); (try clear gwT); (try clear gwB); (try clear gw); (try clear gPg); (try clear gS3); (try clear gTw); (try clear gTb); (try clear gT); (try clear g10); (try clear fwT); (try clear fwB); (try clear fw9); (try clear fPg); (try clear fS3); (try clear fTw); (try clear fTb); (try clear fT); (try clear f10); (try clear hQc); (try clear hQ1); (try clear e71); (try clear e10); (try clear ht0); (try clear x); (try clear eμ1); (try clear hQ); (try clear hsz); (try clear s₁); omega) | omega)))
    have e71k := hfr 719 0 (PS_n (by (first | ((try clear e71k); (try clear e9k); (try clear e10k); (try clear kwT); (try clear kwB); (try clear kw); (try clear kPg); (try clear kS3); (try clear kTw); (try clear kTb); (try clear kT); (try clear k10); (try clear hQ2); (try clear c24_); (try clear hrb); (try clear hfr); (try clear hμ4); (try clear r5); (try clear hz9); (try clear hpp); (try clear c11_); (try clear hip2); (try clear hip); (try clear hμ2); (try clear μ2); (try clear gt2); (try clear gt1); (try clear gtk); (try clear gwT); (try clear gwB); (try clear gw); (try clear gPg); (try clear gS3); (try clear gTw); (try clear gTb); (try clear gT); (try clear g10); (try clear fwT); (try clear fwB); (try clear fw9); (try clear fPg); (try clear fS3); (try clear fTw); (try clear fTb); (try clear fT); (try clear f10); (try clear hQc); (try clear hQ1); (try clear e71); (try clear e10); (try clear ht0); (try clear x); (try clear eμ1); (try clear hQ); (try clear hsz); (try clear s₁); omega) | omega)))
    have ktk := TR_tok kwT kwB.1 kwB.2.1
    have kt1 := ktk.1
    have kt2 := ktk.2.1
    refine lv_iconst (v := iZ (-1)) hx hb dX10_nearest_29 rfl ?_
    refine lv_istore_n (lv' := [(2, .int (iZ ((-1)))), (0, .ref h0), (1, .int (iZ (pp)))]) hx hb dX10_nearest_30 rfl hl (by decide) rfl (fun ls hl => ?_)
    refine lv_ldc (v := iZ 1000000) hx hb hown (hts _ k1551) dX10_nearest_31 ?_
    refine lv_istore_n (lv' := [(3, .int (iZ (1000000))), (2, .int (iZ ((-1)))), (0, .ref h0), (1, .int (iZ (pp)))]) hx hb dX10_nearest_33 rfl hl (by decide) rfl (fun ls hl => ?_)
    refine lv_iconst (v := iZ 0) hx hb dX10_nearest_34 rfl ?_
    refine lv_istore (lv' := [(4, .int (iZ (0))), (3, .int (iZ (1000000))), (2, .int (iZ ((-1)))), (0, .ref h0), (1, .int (iZ (pp)))]) hx hb dX10_nearest_35 hl (by decide) rfl (fun ls hl => ?_)
    refine LX10_nearest_37 hx hb hml hown hts hK (Nat.le_of_ble_eq_true rfl) (Nat.le_of_ble_eq_true rfl) (Nat.le_of_ble_eq_true rfl) (Nat.le_of_ble_eq_true rfl) (μ4) (pp) (J) (by (first | ((try clear kt2); (try clear kt1); (try clear ktk); (try clear e71k); (try clear e9k); (try clear kwT); (try clear kwB); (try clear kw); (try clear kPg); (try clear kS3); (try clear kTw); (try clear kTb); (try clear kT); (try clear k10); (try clear hQ2); (try clear c24_); (try clear hrb); (try clear hfr); (try clear hμ4); (try clear r5); (try clear hz9); (try clear c11_); (try clear hip2); (try clear hip); (try clear hμ2); (try clear μ2); (try clear gt2); (try clear gt1); (try clear gtk); (try clear gwT); (try clear gwB); (try clear gw); (try clear gPg); (try clear gS3); (try clear gTw); (try clear gTb); (try clear gT); (try clear g10); (try clear fwT); (try clear fwB); (try clear fw9); (try clear fPg); (try clear fS3); (try clear fTw); (try clear fTb); (try clear fT); (try clear f10); (try clear hQc); (try clear hQ1); (try clear e71); (try clear ht0); (try clear x); (try clear eμ1); (try clear hQ); (try clear hsz); (try clear s₁); omega) | omega)) (by assumption) (by (first | ((try clear kt2); (try clear kt1); (try clear ktk); (try clear e71k); (try clear e9k); (try clear e10k); (try clear kwT); (try clear kwB); (try clear kw); (try clear kPg); (try clear kS3); (try clear kTw); (try clear kTb); (try clear kT); (try clear hQ2); (try clear c24_); (try clear hrb); (try clear hfr); (try clear hμ4); (try clear r5); (try clear μ4); (try clear hz9); (try clear hpp); (try clear c11_); (try clear hip2); (try clear hip); (try clear hμ2); (try clear r3); (try clear μ2); (try clear gt2); (try clear gt1); (try clear gtk); (try clear gwT); (try clear gwB); (try clear gw); (try clear gPg); (try clear gS3); (try clear gTw); (try clear gTb); (try clear gT); (try clear g10); (try clear fwT); (try clear fwB); (try clear fw9); (try clear fPg); (try clear fS3); (try clear fTw); (try clear fTb); (try clear fT); (try clear f10); (try clear hQc); (try clear hQ1); (try clear e71); (try clear e10); (try clear ht0); (try clear x); (try clear eμ1); (try clear μ1); (try clear hQ); (try clear hsz); (try clear s₁); omega) | omega)) (by exact kPg) ?_ _ (0) ((-1)) (1000000) μ4 H locs ls (by exact fr_rfl) (by (first | ((try clear kt2); (try clear kt1); (try clear ktk); (try clear e71k); (try clear e9k); (try clear e10k); (try clear kwT); (try clear kwB); (try clear kw); (try clear kPg); (try clear kS3); (try clear kTw); (try clear kTb); (try clear kT); (try clear hQ2); (try clear c24_); (try clear hrb); (try clear hfr); (try clear hμ4); (try clear r5); (try clear hz9); (try clear hpp); (try clear c11_); (try clear hip2); (try clear hip); (try clear hμ2); (try clear μ2); (try clear gt2); (try clear gt1); (try clear gtk); (try clear gwT); (try clear gwB); (try clear gw); (try clear gPg); (try clear gS3); (try clear gTw); (try clear gTb); (try clear gT); (try clear g10); (try clear fwT); (try clear fwB); (try clear fw9); (try clear fPg); (try clear fS3); (try clear fTw); (try clear fTb); (try clear fT); (try clear f10); (try clear hQc); (try clear hQ1); (try clear e71); (try clear e10); (try clear ht0); (try clear x); (try clear eμ1); (try clear hQ); (try clear hsz); (try clear s₁); omega) | omega)) (by (first | ((try clear kt2); (try clear kt1); (try clear ktk); (try clear e71k); (try clear e9k); (try clear e10k); (try clear kwT); (try clear kwB); (try clear kw); (try clear kPg); (try clear kS3); (try clear kTw); (try clear kTb); (try clear kT); (try clear k10); (try clear hQ2); (try clear c24_); (try clear hrb); (try clear hfr); (try clear hμ4); (try clear r5); (try clear hz9); (try clear hpp); (try clear c11_); (try clear hip2); (try clear hip); (try clear hμ2); (try clear μ2); (try clear gt2); (try clear gt1); (try clear gtk); (try clear gwT); (try clear gwB); (try clear gw); (try clear gPg); (try clear gS3); (try clear gTw); (try clear gTb); (try clear gT); (try clear g10); (try clear fwT); (try clear fwB); (try clear fw9); (try clear fPg); (try clear fS3); (try clear fTw); (try clear fTb); (try clear fT); (try clear f10); (try clear hQc); (try clear hQ1); (try clear e71); (try clear e10); (try clear ht0); (try clear x); (try clear eμ1); (try clear hQ); (try clear hsz); (try clear s₁); omega) | omega)) (Nat.lt_succ_self _) hP hS (lv_sub hl [0, 1, 2, 4, 3] rfl)
    · intro q_6 f9_6 b9_6 μ6_ H locs ls q1_6 hP hS hl
      have hl : lv_has ls 6 [(2, .int (iZ (f9_6)))] := hl
      refine lv_iload_n hx hb dX10_nearest_87 rfl (lv_at hl 0 rfl) ?_
      exact W.iret (v := iZ (f9_6)) hx hb hr (fun t9 ht9 hW9 => ⟨⟨iZ (f9_6), (μ6_, f9_6), rfl, ⟨rfl, (by
                    dsimp only
                    have h00z := q1_6 0 0 (by unfold LPq LD PT; (first | ((try clear h00z); (try clear q1_6); (try clear μ6_); (try clear b9_6); (try clear f9_6); (try clear q_6); (try clear kt2); (try clear kt1); (try clear ktk); (try clear e71k); (try clear e9k); (try clear e10k); (try clear kwT); (try clear kwB); (try clear kw); (try clear kPg); (try clear kS3); (try clear kTw); (try clear kTb); (try clear kT); (try clear k10); (try clear hQ2); (try clear c24_); (try clear hrb); (try clear hfr); (try clear hμ4); (try clear r5); (try clear hz9); (try clear hpp); (try clear c11_); (try clear hip2); (try clear hip); (try clear hμ2); (try clear μ2); (try clear gt2); (try clear gt1); (try clear gtk); (try clear gwT); (try clear gwB); (try clear gw); (try clear gPg); (try clear gS3); (try clear gTw); (try clear gTb); (try clear gT); (try clear g10); (try clear fwT); (try clear fwB); (try clear fw9); (try clear fPg); (try clear fS3); (try clear fTw); (try clear fTb); (try clear fT); (try clear f10); (try clear hQc); (try clear hQ1); (try clear e71); (try clear e10); (try clear ht0); (try clear x); (try clear eμ1); (try clear hQ); (try clear hsz); (try clear s₁); omega) | omega))
                    exact ⟨fr_trans hfr (fr_mono q1_6 (fun x y h => LPq_PS h)), by (first | ((try clear q1_6); (try clear b9_6); (try clear f9_6); (try clear q_6); (try clear kt2); (try clear kt1); (try clear ktk); (try clear e71k); (try clear e9k); (try clear e10k); (try clear kwT); (try clear kwB); (try clear kw); (try clear kPg); (try clear kS3); (try clear kTw); (try clear kTb); (try clear kT); (try clear k10); (try clear hQ2); (try clear c24_); (try clear hfr); (try clear hμ4); (try clear r5); (try clear hz9); (try clear hpp); (try clear c11_); (try clear hip2); (try clear hip); (try clear hμ2); (try clear μ2); (try clear gt2); (try clear gt1); (try clear gtk); (try clear gwT); (try clear gwB); (try clear gw); (try clear gPg); (try clear gS3); (try clear gTw); (try clear gTb); (try clear gT); (try clear g10); (try clear fwT); (try clear fwB); (try clear fw9); (try clear fPg); (try clear fS3); (try clear fTw); (try clear fTb); (try clear fT); (try clear f10); (try clear hQc); (try clear hQ1); (try clear e71); (try clear e10); (try clear x); (try clear eμ1); (try clear hQ); (try clear hsz); (try clear s₁); omega) | omega)⟩)⟩, by rw [ht9]; exact hP, va_K.moved hW9.alike hK⟩, hS.F ht9⟩) hS.2.2 dX10_nearest_88
  · refine lv_iconst (v := iZ 1) hx hb dX10_nearest_14 rfl ?_
    refine lv_goto (tgt := 19) hx hb dX10_nearest_15 (by decide) ?_
    refine lv_iconst (v := iZ 1) hx hb dX10_nearest_19 rfl ?_
    refine lv_iconst (v := iZ 0) hx hb dX10_nearest_20 rfl ?_
    refine va_calli (va_runV (As := [.int (iZ (1)), .int (iZ (1)), .int (iZ (0))]) (rest := []) ⟨hx, hb, hml, hown, hts⟩ (m_bad2 l dC dI cI cZ cII cIII h0 H.size μ1 (1) (1) (0) (by first | assumption | (first | ((try clear c11_); (try clear hip2); (try clear hip); (try clear hμ2); (try clear μ2); (try clear hz9); (try clear gt2); (try clear gt1); (try clear gtk); (try clear gwT); (try clear gwB); (try clear gw); (try clear gPg); (try clear gS3); (try clear gTw); (try clear gTb); (try clear gT); (try clear g10); (try clear fwT); (try clear fwB); (try clear fw9); (try clear fPg); (try clear fS3); (try clear fTw); (try clear fTb); (try clear fT); (try clear f10); (try clear hQc); (try clear hQ1); (try clear e71); (try clear e10); (try clear ht0); (try clear x); (try clear eμ1); (try clear hQ); (try clear hsz); (try clear s₁); omega) | omega) | exact ⟨by omega, by omega⟩) (by first | assumption | (first | ((try clear c11_); (try clear hip2); (try clear hip); (try clear hμ2); (try clear μ2); (try clear hz9); (try clear gt2); (try clear gt1); (try clear gtk); (try clear gwT); (try clear gwB); (try clear gw); (try clear gPg); (try clear gS3); (try clear gTw); (try clear gTb); (try clear gT); (try clear g10); (try clear fwT); (try clear fwB); (try clear fw9); (try clear fPg); (try clear fS3); (try clear fTw); (try clear fTb); (try clear fT); (try clear f10); (try clear hQc); (try clear hQ1); (try clear e71); (try clear e10); (try clear ht0); (try clear x); (try clear eμ1); (try clear hQ); (try clear hsz); (try clear s₁); omega) | omega) | exact ⟨by omega, by omega⟩) (by first | assumption | (first | ((try clear c11_); (try clear hip2); (try clear hip); (try clear hμ2); (try clear μ2); (try clear hz9); (try clear gt2); (try clear gt1); (try clear gtk); (try clear gwT); (try clear gwB); (try clear gw); (try clear gPg); (try clear gS3); (try clear gTw); (try clear gTb); (try clear gT); (try clear g10); (try clear fwT); (try clear fwB); (try clear fw9); (try clear fPg); (try clear fS3); (try clear fTw); (try clear fTb); (try clear fT); (try clear f10); (try clear hQc); (try clear hQ1); (try clear e71); (try clear e10); (try clear ht0); (try clear x); (try clear eμ1); (try clear hQ); (try clear hsz); (try clear s₁); omega) | omega) | exact ⟨by omega, by omega⟩) (by first | assumption | omega | exact ⟨by omega, by omega⟩)) (cwV 3 hts (gV_G k1342 k1344 ks_yX10_bad k13 k1345) rfl rfl rfl (by decide +kernel) ⟨Nat.le_of_ble_eq_true rfl, Nat.le_of_ble_eq_true rfl⟩) ⟨fun a U g mk q => by obtain ⟨q0, q1, qP, qK⟩ := q; exact ⟨q0, q1, qP, va_K.moved (u := U) (U := U.calling g mk a) (Vm.Alike.refl U.vm) qK⟩, va_recv hK hP (ci := 10) (q0 := 0) rfl ((fw_get (by decide)).trans (by rw [mE_obj]; rfl)), fun U hU hW => ⟨rfl, by rw [hU], by rw [hU]; exact hP, va_K.moved hW.alike hK⟩⟩ rfl rfl hl.1 rfl (lv_room (Nat.le_of_ble_eq_true rfl)) dX10_nearest_21 ⟨Nat.le_of_ble_eq_true rfl, Nat.le_of_ble_eq_true rfl⟩) hS (fun q _ h => fA_le hS.1 q h) (fA_le hS.1) (fun r9 u9 t9 H1 locs ht9 hvm9 hw9 hB9 hz9 hk9 hS => ?_)
    obtain ⟨μ7, r8⟩ := u9
    obtain ⟨hP, -⟩ := hB9
    rw [ht9] at hP
    generalize H1 = H at hP hS ⊢
    obtain ⟨e9, hw9⟩ := hw9
    have e9 : r9 = iZ r8 := e9
    subst e9
    simp only at hP hw9
    have hμ7 := hw9; clear hw9
    have hfr := fr_trans hfr (badP_fr hμ7)
    have hrb := badP_r hμ7
    obtain rfl : r8 = 1 := by (first | ((try clear hfr); (try clear hμ7); (try clear hz9); (try clear c11_); (try clear hip2); (try clear hip); (try clear hμ2); (try clear μ2); (try clear gt2); (try clear gt1); (try clear gtk); (try clear gwT); (try clear gwB); (try clear gw); (try clear gPg); (try clear gS3); (try clear gTw); (try clear gTb); (try clear gT); (try clear g10); (try clear fwT); (try clear fwB); (try clear fw9); (try clear fPg); (try clear fS3); (try clear fTw); (try clear fTb); (try clear fT); (try clear f10); (try clear hQc); (try clear hQ1); (try clear e71); (try clear e10); (try clear ht0); (try clear x); (try clear eμ1); (try clear hQ); (try clear hsz); (try clear s₁); omega) | omega)
    refine fz_if_eq (tgt := 29) (by decide) hx hb dX10_nearest_24 (by decide) (fun h9 => absurd h9 (by decide)) (fun c24_ => ?_)
    refine lv_iconst (v := iZ 0) hx hb dX10_nearest_27 rfl ?_
    exact W.iret (v := iZ (0)) hx hb hr (fun t9 ht9 hW9 => ⟨⟨iZ (0), (μ7, 0), rfl, ⟨rfl, (by
                dsimp only
                exact ⟨hfr, by (first | ((try clear hfr); (try clear hμ7); (try clear r8); (try clear hz9); (try clear c11_); (try clear hip2); (try clear hip); (try clear hμ2); (try clear μ2); (try clear gt2); (try clear gt1); (try clear gtk); (try clear gwT); (try clear gwB); (try clear gw); (try clear gPg); (try clear gS3); (try clear gTw); (try clear gTb); (try clear gT); (try clear g10); (try clear fwT); (try clear fwB); (try clear fw9); (try clear fPg); (try clear fS3); (try clear fTw); (try clear fTb); (try clear fT); (try clear f10); (try clear hQc); (try clear hQ1); (try clear e71); (try clear e10); (try clear ht0); (try clear x); (try clear eμ1); (try clear hQ); (try clear hsz); (try clear s₁); omega) | omega)⟩)⟩, by rw [ht9]; exact hP, va_K.moved hW9.alike hK⟩, hS.F ht9⟩) hS.2.2 dX10_nearest_28

theorem k1607 : (Cond.methodLink "PageSkeletonModel" (352 : Nat) ({ cls := "PageSkeletonModel", name := "letter", desc := "(II)I" } : MethodName)) ∈ wsG := wsG_at 1607 (by decide +kernel) (by decide +kernel)
theorem k1609 : (Cond.instanceMethod ({ cls := "PageSkeletonModel", name := "letter", desc := "(II)I" } : MethodName)) ∈ wsG := wsG_at 1609 (by decide +kernel) (by decide +kernel)
theorem k1610 : (Cond.code ({ cls := "PageSkeletonModel", name := "letter", desc := "(II)I" } : MethodName) prog_12_method_66_code (5 : Nat) (Option.some FieldType.int)) ∈ wsG := wsG_at 1610 (by decide +kernel) (by decide +kernel)
theorem k1611 : (Cond.methodLink "PageSkeletonModel" (355 : Nat) ({ cls := "PageSkeletonModel", name := "pagesWith", desc := "(I)I" } : MethodName)) ∈ wsG := wsG_at 1611 (by decide +kernel) (by decide +kernel)
theorem k1613 : (Cond.instanceMethod ({ cls := "PageSkeletonModel", name := "pagesWith", desc := "(I)I" } : MethodName)) ∈ wsG := wsG_at 1613 (by decide +kernel) (by decide +kernel)
theorem k1614 : (Cond.code ({ cls := "PageSkeletonModel", name := "pagesWith", desc := "(I)I" } : MethodName) prog_12_method_67_code (6 : Nat) (Option.some FieldType.int)) ∈ wsG := wsG_at 1614 (by decide +kernel) (by decide +kernel)
theorem k1619 : (Cond.methodLink "PageSkeletonModel" (361 : Nat) ({ cls := "PageSkeletonModel", name := "isNode", desc := "(I)Z" } : MethodName)) ∈ wsG := wsG_at 1619 (by decide +kernel) (by decide +kernel)
theorem k1621 : (Cond.instanceMethod ({ cls := "PageSkeletonModel", name := "isNode", desc := "(I)Z" } : MethodName)) ∈ wsG := wsG_at 1621 (by decide +kernel) (by decide +kernel)
theorem k1622 : (Cond.code ({ cls := "PageSkeletonModel", name := "isNode", desc := "(I)Z" } : MethodName) prog_12_method_70_code (2 : Nat) (Option.some FieldType.boolean)) ∈ wsG := wsG_at 1622 (by decide +kernel) (by decide +kernel)
theorem k1623 : (Cond.methodLink "PageSkeletonModel" (364 : Nat) ({ cls := "PageSkeletonModel", name := "of", desc := "(III)I" } : MethodName)) ∈ wsG := wsG_at 1623 (by decide +kernel) (by decide +kernel)
theorem k1625 : (Cond.instanceMethod ({ cls := "PageSkeletonModel", name := "of", desc := "(III)I" } : MethodName)) ∈ wsG := wsG_at 1625 (by decide +kernel) (by decide +kernel)
theorem k1626 : (Cond.code ({ cls := "PageSkeletonModel", name := "of", desc := "(III)I" } : MethodName) prog_12_method_69_code (4 : Nat) (Option.some FieldType.int)) ∈ wsG := wsG_at 1626 (by decide +kernel) (by decide +kernel)
theorem k1627 : (Cond.methodLink "PageSkeletonModel" (358 : Nat) ({ cls := "PageSkeletonModel", name := "parentOf", desc := "(II)I" } : MethodName)) ∈ wsG := wsG_at 1627 (by decide +kernel) (by decide +kernel)
theorem k1629 : (Cond.instanceMethod ({ cls := "PageSkeletonModel", name := "parentOf", desc := "(II)I" } : MethodName)) ∈ wsG := wsG_at 1629 (by decide +kernel) (by decide +kernel)
theorem k1630 : (Cond.code ({ cls := "PageSkeletonModel", name := "parentOf", desc := "(II)I" } : MethodName) prog_12_method_61_code (5 : Nat) (Option.some FieldType.int)) ∈ wsG := wsG_at 1630 (by decide +kernel) (by decide +kernel)
theorem ks_yX10_pagesWith : Cond.selects RX10 yX10_pagesWith yX10_pagesWith ∈ wsG := wsG_mem (by decide +kernel) (by decide +kernel)
theorem ks_yX10_letter : Cond.selects RX10 yX10_letter yX10_letter ∈ wsG := wsG_mem (by decide +kernel) (by decide +kernel)
theorem ks_yX10_parentOf : Cond.selects RX10 yX10_parentOf yX10_parentOf ∈ wsG := wsG_mem (by decide +kernel) (by decide +kernel)
theorem ks_yX10_isNode : Cond.selects RX10 yX10_isNode yX10_isNode ∈ wsG := wsG_mem (by decide +kernel) (by decide +kernel)
theorem ks_yX10_of : Cond.selects RX10 yX10_of yX10_of ∈ wsG := wsG_mem (by decide +kernel) (by decide +kernel)
theorem dX10_node_0 : decode cX10_node 0 = .ok (.aload_n 0, 1) := by decide +kernel
theorem dX10_node_1 : decode cX10_node 1 = .ok (.iconst 0, 1) := by decide +kernel
theorem dX10_node_2 : decode cX10_node 2 = .ok (.putfield 127, 3) := by decide +kernel
theorem dX10_node_5 : decode cX10_node 5 = .ok (.aload_n 0, 1) := by decide +kernel
theorem dX10_node_6 : decode cX10_node 6 = .ok (.aload_n 0, 1) := by decide +kernel
theorem dX10_node_7 : decode cX10_node 7 = .ok (.iload_n 1, 1) := by decide +kernel
theorem dX10_node_8 : decode cX10_node 8 = .ok (.invokevirtual 361, 3) := by decide +kernel
theorem dX10_node_11 : decode cX10_node 11 = .ok (.ifCond .ne 7, 3) := by decide +kernel
theorem dX10_node_14 : decode cX10_node 14 = .ok (.iconst 1, 1) := by decide +kernel
theorem dX10_node_15 : decode cX10_node 15 = .ok (.goto 4, 3) := by decide +kernel
theorem dX10_node_18 : decode cX10_node 18 = .ok (.iconst 0, 1) := by decide +kernel
theorem dX10_node_19 : decode cX10_node 19 = .ok (.iconst 1, 1) := by decide +kernel
theorem dX10_node_20 : decode cX10_node 20 = .ok (.iconst 0, 1) := by decide +kernel
theorem dX10_node_21 : decode cX10_node 21 = .ok (.invokevirtual 177, 3) := by decide +kernel
theorem dX10_node_24 : decode cX10_node 24 = .ok (.ifCond .ne 26, 3) := by decide +kernel
theorem dX10_node_27 : decode cX10_node 27 = .ok (.aload_n 0, 1) := by decide +kernel
theorem dX10_node_28 : decode cX10_node 28 = .ok (.iload_n 2, 1) := by decide +kernel
theorem dX10_node_29 : decode cX10_node 29 = .ok (.iconst 0, 1) := by decide +kernel
theorem dX10_node_30 : decode cX10_node 30 = .ok (.iconst 5, 1) := by decide +kernel
theorem dX10_node_31 : decode cX10_node 31 = .ok (.invokestatic 173, 3) := by decide +kernel
theorem dX10_node_34 : decode cX10_node 34 = .ok (.ifCond .ne 7, 3) := by decide +kernel
theorem dX10_node_37 : decode cX10_node 37 = .ok (.iconst 1, 1) := by decide +kernel
theorem dX10_node_38 : decode cX10_node 38 = .ok (.goto 4, 3) := by decide +kernel
theorem dX10_node_41 : decode cX10_node 41 = .ok (.iconst 0, 1) := by decide +kernel
theorem dX10_node_42 : decode cX10_node 42 = .ok (.iconst 2, 1) := by decide +kernel
theorem dX10_node_43 : decode cX10_node 43 = .ok (.iconst 1, 1) := by decide +kernel
theorem dX10_node_44 : decode cX10_node 44 = .ok (.invokevirtual 177, 3) := by decide +kernel
theorem dX10_node_47 : decode cX10_node 47 = .ok (.ifCond .eq 5, 3) := by decide +kernel
theorem dX10_node_50 : decode cX10_node 50 = .ok (.iconst 0, 1) := by decide +kernel
theorem dX10_node_51 : decode cX10_node 51 = .ok (.ireturn, 1) := by decide +kernel
theorem dX10_node_52 : decode cX10_node 52 = .ok (.aload_n 0, 1) := by decide +kernel
theorem dX10_node_53 : decode cX10_node 53 = .ok (.iconst 0, 1) := by decide +kernel
theorem dX10_node_54 : decode cX10_node 54 = .ok (.iload_n 1, 1) := by decide +kernel
theorem dX10_node_55 : decode cX10_node 55 = .ok (.iload_n 2, 1) := by decide +kernel
theorem dX10_node_56 : decode cX10_node 56 = .ok (.invokevirtual 364, 3) := by decide +kernel
theorem dX10_node_59 : decode cX10_node 59 = .ok (.ireturn, 1) := by decide +kernel
theorem dX10_of_0 : decode cX10_of 0 = .ok (.iload_n 3, 1) := by decide +kernel
theorem dX10_of_1 : decode cX10_of 1 = .ok (.tableswitch 101 0 4 #[35, 44, 69, 77, 84], 35) := by decide +kernel
theorem dX10_of_36 : decode cX10_of 36 = .ok (.aload_n 0, 1) := by decide +kernel
theorem dX10_of_37 : decode cX10_of 37 = .ok (.getfield 45, 3) := by decide +kernel
theorem dX10_of_40 : decode cX10_of 40 = .ok (.iload_n 1, 1) := by decide +kernel
theorem dX10_of_41 : decode cX10_of 41 = .ok (.aaload, 1) := by decide +kernel
theorem dX10_of_42 : decode cX10_of 42 = .ok (.iload_n 2, 1) := by decide +kernel
theorem dX10_of_43 : decode cX10_of 43 = .ok (.iaload, 1) := by decide +kernel
theorem dX10_of_44 : decode cX10_of 44 = .ok (.ireturn, 1) := by decide +kernel
theorem dX10_of_45 : decode cX10_of 45 = .ok (.aload_n 0, 1) := by decide +kernel
theorem dX10_of_46 : decode cX10_of 46 = .ok (.getfield 45, 3) := by decide +kernel
theorem dX10_of_49 : decode cX10_of 49 = .ok (.iload_n 1, 1) := by decide +kernel
theorem dX10_of_50 : decode cX10_of 50 = .ok (.aaload, 1) := by decide +kernel
theorem dX10_of_51 : decode cX10_of 51 = .ok (.iload_n 2, 1) := by decide +kernel
theorem dX10_of_52 : decode cX10_of 52 = .ok (.iaload, 1) := by decide +kernel
theorem dX10_of_53 : decode cX10_of 53 = .ok (.iconst 2, 1) := by decide +kernel
theorem dX10_of_54 : decode cX10_of 54 = .ok (.if_icmp .ge 14, 3) := by decide +kernel
theorem dX10_of_57 : decode cX10_of 57 = .ok (.aload_n 0, 1) := by decide +kernel
theorem dX10_of_58 : decode cX10_of 58 = .ok (.getfield 48, 3) := by decide +kernel
theorem dX10_of_61 : decode cX10_of 61 = .ok (.iload_n 1, 1) := by decide +kernel
theorem dX10_of_62 : decode cX10_of 62 = .ok (.aaload, 1) := by decide +kernel
theorem dX10_of_63 : decode cX10_of 63 = .ok (.iload_n 2, 1) := by decide +kernel
theorem dX10_of_64 : decode cX10_of 64 = .ok (.iaload, 1) := by decide +kernel
theorem dX10_of_65 : decode cX10_of 65 = .ok (.goto 4, 3) := by decide +kernel
theorem dX10_of_68 : decode cX10_of 68 = .ok (.iconst (-1), 1) := by decide +kernel
theorem dX10_of_69 : decode cX10_of 69 = .ok (.ireturn, 1) := by decide +kernel
theorem dX10_of_70 : decode cX10_of 70 = .ok (.aload_n 0, 1) := by decide +kernel
theorem dX10_of_71 : decode cX10_of 71 = .ok (.iload_n 1, 1) := by decide +kernel
theorem dX10_of_72 : decode cX10_of 72 = .ok (.iload_n 2, 1) := by decide +kernel
theorem dX10_of_73 : decode cX10_of 73 = .ok (.iconst (-1), 1) := by decide +kernel
theorem dX10_of_74 : decode cX10_of 74 = .ok (.invokevirtual 340, 3) := by decide +kernel
theorem dX10_of_77 : decode cX10_of 77 = .ok (.ireturn, 1) := by decide +kernel
theorem dX10_of_78 : decode cX10_of 78 = .ok (.aload_n 0, 1) := by decide +kernel
theorem dX10_of_79 : decode cX10_of 79 = .ok (.iload_n 1, 1) := by decide +kernel
theorem dX10_of_80 : decode cX10_of 80 = .ok (.iload_n 2, 1) := by decide +kernel
theorem dX10_of_81 : decode cX10_of 81 = .ok (.invokevirtual 358, 3) := by decide +kernel
theorem dX10_of_84 : decode cX10_of 84 = .ok (.ireturn, 1) := by decide +kernel
theorem dX10_of_85 : decode cX10_of 85 = .ok (.aload_n 0, 1) := by decide +kernel
theorem dX10_of_86 : decode cX10_of 86 = .ok (.iload_n 1, 1) := by decide +kernel
theorem dX10_of_87 : decode cX10_of 87 = .ok (.iload_n 2, 1) := by decide +kernel
theorem dX10_of_88 : decode cX10_of 88 = .ok (.iload_n 2, 1) := by decide +kernel
theorem dX10_of_89 : decode cX10_of 89 = .ok (.aload_n 0, 1) := by decide +kernel
theorem dX10_of_90 : decode cX10_of 90 = .ok (.getfield 51, 3) := by decide +kernel
theorem dX10_of_93 : decode cX10_of 93 = .ok (.iload_n 1, 1) := by decide +kernel
theorem dX10_of_94 : decode cX10_of 94 = .ok (.aaload, 1) := by decide +kernel
theorem dX10_of_95 : decode cX10_of 95 = .ok (.iload_n 2, 1) := by decide +kernel
theorem dX10_of_96 : decode cX10_of 96 = .ok (.iaload, 1) := by decide +kernel
theorem dX10_of_97 : decode cX10_of 97 = .ok (.iadd, 1) := by decide +kernel
theorem dX10_of_98 : decode cX10_of 98 = .ok (.invokevirtual 222, 3) := by decide +kernel
theorem dX10_of_101 : decode cX10_of 101 = .ok (.ireturn, 1) := by decide +kernel
theorem dX10_of_102 : decode cX10_of 102 = .ok (.aload_n 0, 1) := by decide +kernel
theorem dX10_of_103 : decode cX10_of 103 = .ok (.iload_n 1, 1) := by decide +kernel
theorem dX10_of_104 : decode cX10_of 104 = .ok (.iload_n 2, 1) := by decide +kernel
theorem dX10_of_105 : decode cX10_of 105 = .ok (.invokevirtual 207, 3) := by decide +kernel
theorem dX10_of_108 : decode cX10_of 108 = .ok (.ireturn, 1) := by decide +kernel
theorem dX10_pageNode_0 : decode cX10_pageNode 0 = .ok (.aload_n 0, 1) := by decide +kernel
theorem dX10_pageNode_1 : decode cX10_pageNode 1 = .ok (.iconst 0, 1) := by decide +kernel
theorem dX10_pageNode_2 : decode cX10_pageNode 2 = .ok (.putfield 127, 3) := by decide +kernel
theorem dX10_pageNode_5 : decode cX10_pageNode 5 = .ok (.aload_n 0, 1) := by decide +kernel
theorem dX10_pageNode_6 : decode cX10_pageNode 6 = .ok (.iload_n 1, 1) := by decide +kernel
theorem dX10_pageNode_7 : decode cX10_pageNode 7 = .ok (.invokevirtual 346, 3) := by decide +kernel
theorem dX10_pageNode_10 : decode cX10_pageNode 10 = .ok (.ifCond .eq 26, 3) := by decide +kernel
theorem dX10_pageNode_13 : decode cX10_pageNode 13 = .ok (.iload_n 2, 1) := by decide +kernel
theorem dX10_pageNode_14 : decode cX10_pageNode 14 = .ok (.iconst 0, 1) := by decide +kernel
theorem dX10_pageNode_15 : decode cX10_pageNode 15 = .ok (.aload_n 0, 1) := by decide +kernel
theorem dX10_pageNode_16 : decode cX10_pageNode 16 = .ok (.getfield 54, 3) := by decide +kernel
theorem dX10_pageNode_19 : decode cX10_pageNode 19 = .ok (.bipush 17, 2) := by decide +kernel
theorem dX10_pageNode_21 : decode cX10_pageNode 21 = .ok (.iload_n 1, 1) := by decide +kernel
theorem dX10_pageNode_22 : decode cX10_pageNode 22 = .ok (.iadd, 1) := by decide +kernel
theorem dX10_pageNode_23 : decode cX10_pageNode 23 = .ok (.iaload, 1) := by decide +kernel
theorem dX10_pageNode_24 : decode cX10_pageNode 24 = .ok (.iconst 1, 1) := by decide +kernel
theorem dX10_pageNode_25 : decode cX10_pageNode 25 = .ok (.isub, 1) := by decide +kernel
theorem dX10_pageNode_26 : decode cX10_pageNode 26 = .ok (.invokestatic 173, 3) := by decide +kernel
theorem dX10_pageNode_29 : decode cX10_pageNode 29 = .ok (.ifCond .eq 7, 3) := by decide +kernel
theorem dX10_pageNode_32 : decode cX10_pageNode 32 = .ok (.iconst 1, 1) := by decide +kernel
theorem dX10_pageNode_33 : decode cX10_pageNode 33 = .ok (.goto 4, 3) := by decide +kernel
theorem dX10_pageNode_36 : decode cX10_pageNode 36 = .ok (.iconst 0, 1) := by decide +kernel
theorem dX10_pageNode_37 : decode cX10_pageNode 37 = .ok (.istore 4, 2) := by decide +kernel
theorem dX10_pageNode_39 : decode cX10_pageNode 39 = .ok (.aload_n 0, 1) := by decide +kernel
theorem dX10_pageNode_40 : decode cX10_pageNode 40 = .ok (.iload 4, 2) := by decide +kernel
theorem dX10_pageNode_42 : decode cX10_pageNode 42 = .ok (.ifCond .ne 7, 3) := by decide +kernel
theorem dX10_pageNode_45 : decode cX10_pageNode 45 = .ok (.iconst 1, 1) := by decide +kernel
theorem dX10_pageNode_46 : decode cX10_pageNode 46 = .ok (.goto 4, 3) := by decide +kernel
theorem dX10_pageNode_49 : decode cX10_pageNode 49 = .ok (.iconst 0, 1) := by decide +kernel
theorem dX10_pageNode_50 : decode cX10_pageNode 50 = .ok (.iconst 1, 1) := by decide +kernel
theorem dX10_pageNode_51 : decode cX10_pageNode 51 = .ok (.iconst 0, 1) := by decide +kernel
theorem dX10_pageNode_52 : decode cX10_pageNode 52 = .ok (.invokevirtual 177, 3) := by decide +kernel
theorem dX10_pageNode_55 : decode cX10_pageNode 55 = .ok (.ifCond .ne 26, 3) := by decide +kernel
theorem dX10_pageNode_58 : decode cX10_pageNode 58 = .ok (.aload_n 0, 1) := by decide +kernel
theorem dX10_pageNode_59 : decode cX10_pageNode 59 = .ok (.iload_n 3, 1) := by decide +kernel
theorem dX10_pageNode_60 : decode cX10_pageNode 60 = .ok (.iconst 0, 1) := by decide +kernel
theorem dX10_pageNode_61 : decode cX10_pageNode 61 = .ok (.iconst 5, 1) := by decide +kernel
theorem dX10_pageNode_62 : decode cX10_pageNode 62 = .ok (.invokestatic 173, 3) := by decide +kernel
theorem dX10_pageNode_65 : decode cX10_pageNode 65 = .ok (.ifCond .ne 7, 3) := by decide +kernel
theorem dX10_pageNode_68 : decode cX10_pageNode 68 = .ok (.iconst 1, 1) := by decide +kernel
theorem dX10_pageNode_69 : decode cX10_pageNode 69 = .ok (.goto 4, 3) := by decide +kernel
theorem dX10_pageNode_72 : decode cX10_pageNode 72 = .ok (.iconst 0, 1) := by decide +kernel
theorem dX10_pageNode_73 : decode cX10_pageNode 73 = .ok (.iconst 2, 1) := by decide +kernel
theorem dX10_pageNode_74 : decode cX10_pageNode 74 = .ok (.iconst 1, 1) := by decide +kernel
theorem dX10_pageNode_75 : decode cX10_pageNode 75 = .ok (.invokevirtual 177, 3) := by decide +kernel
theorem dX10_pageNode_78 : decode cX10_pageNode 78 = .ok (.ifCond .eq 5, 3) := by decide +kernel
theorem dX10_pageNode_81 : decode cX10_pageNode 81 = .ok (.iconst 0, 1) := by decide +kernel
theorem dX10_pageNode_82 : decode cX10_pageNode 82 = .ok (.ireturn, 1) := by decide +kernel
theorem dX10_pageNode_83 : decode cX10_pageNode 83 = .ok (.aload_n 0, 1) := by decide +kernel
theorem dX10_pageNode_84 : decode cX10_pageNode 84 = .ok (.bipush 17, 2) := by decide +kernel
theorem dX10_pageNode_86 : decode cX10_pageNode 86 = .ok (.iload_n 1, 1) := by decide +kernel
theorem dX10_pageNode_87 : decode cX10_pageNode 87 = .ok (.iadd, 1) := by decide +kernel
theorem dX10_pageNode_88 : decode cX10_pageNode 88 = .ok (.iload_n 2, 1) := by decide +kernel
theorem dX10_pageNode_89 : decode cX10_pageNode 89 = .ok (.iload_n 3, 1) := by decide +kernel
theorem dX10_pageNode_90 : decode cX10_pageNode 90 = .ok (.invokevirtual 364, 3) := by decide +kernel
theorem dX10_pageNode_93 : decode cX10_pageNode 93 = .ok (.ireturn, 1) := by decide +kernel
theorem dX10_pagesWith_0 : decode cX10_pagesWith 0 = .ok (.iconst 0, 1) := by decide +kernel
theorem dX10_pagesWith_1 : decode cX10_pagesWith 1 = .ok (.istore_n 2, 1) := by decide +kernel
theorem dX10_pagesWith_2 : decode cX10_pagesWith 2 = .ok (.iconst 0, 1) := by decide +kernel
theorem dX10_pagesWith_3 : decode cX10_pagesWith 3 = .ok (.istore_n 3, 1) := by decide +kernel
theorem dX10_pagesWith_4 : decode cX10_pagesWith 4 = .ok (.iload_n 3, 1) := by decide +kernel
theorem dX10_pagesWith_5 : decode cX10_pagesWith 5 = .ok (.aload_n 0, 1) := by decide +kernel
theorem dX10_pagesWith_6 : decode cX10_pagesWith 6 = .ok (.getfield 181, 3) := by decide +kernel
theorem dX10_pagesWith_9 : decode cX10_pagesWith 9 = .ok (.if_icmp .ge 68, 3) := by decide +kernel
theorem dX10_pagesWith_12 : decode cX10_pagesWith 12 = .ok (.iconst 0, 1) := by decide +kernel
theorem dX10_pagesWith_13 : decode cX10_pagesWith 13 = .ok (.istore 4, 2) := by decide +kernel
theorem dX10_pagesWith_15 : decode cX10_pagesWith 15 = .ok (.iconst 0, 1) := by decide +kernel
theorem dX10_pagesWith_16 : decode cX10_pagesWith 16 = .ok (.istore 5, 2) := by decide +kernel
theorem dX10_pagesWith_18 : decode cX10_pagesWith 18 = .ok (.iload 5, 2) := by decide +kernel
theorem dX10_pagesWith_20 : decode cX10_pagesWith 20 = .ok (.aload_n 0, 1) := by decide +kernel
theorem dX10_pagesWith_21 : decode cX10_pagesWith 21 = .ok (.getfield 34, 3) := by decide +kernel
theorem dX10_pagesWith_24 : decode cX10_pagesWith 24 = .ok (.iload_n 3, 1) := by decide +kernel
theorem dX10_pagesWith_25 : decode cX10_pagesWith 25 = .ok (.iaload, 1) := by decide +kernel
theorem dX10_pagesWith_26 : decode cX10_pagesWith 26 = .ok (.if_icmp .ge 32, 3) := by decide +kernel
theorem dX10_pagesWith_29 : decode cX10_pagesWith 29 = .ok (.iload 4, 2) := by decide +kernel
theorem dX10_pagesWith_31 : decode cX10_pagesWith 31 = .ok (.aload_n 0, 1) := by decide +kernel
theorem dX10_pagesWith_32 : decode cX10_pagesWith 32 = .ok (.getfield 31, 3) := by decide +kernel
theorem dX10_pagesWith_35 : decode cX10_pagesWith 35 = .ok (.iload_n 3, 1) := by decide +kernel
theorem dX10_pagesWith_36 : decode cX10_pagesWith 36 = .ok (.aaload, 1) := by decide +kernel
theorem dX10_pagesWith_37 : decode cX10_pagesWith 37 = .ok (.iload 5, 2) := by decide +kernel
theorem dX10_pagesWith_39 : decode cX10_pagesWith 39 = .ok (.iaload, 1) := by decide +kernel
theorem dX10_pagesWith_40 : decode cX10_pagesWith 40 = .ok (.iload_n 1, 1) := by decide +kernel
theorem dX10_pagesWith_41 : decode cX10_pagesWith 41 = .ok (.if_icmp .ne 7, 3) := by decide +kernel
theorem dX10_pagesWith_44 : decode cX10_pagesWith 44 = .ok (.iconst 1, 1) := by decide +kernel
theorem dX10_pagesWith_45 : decode cX10_pagesWith 45 = .ok (.goto 4, 3) := by decide +kernel
theorem dX10_pagesWith_48 : decode cX10_pagesWith 48 = .ok (.iconst 0, 1) := by decide +kernel
theorem dX10_pagesWith_49 : decode cX10_pagesWith 49 = .ok (.ior, 1) := by decide +kernel
theorem dX10_pagesWith_50 : decode cX10_pagesWith 50 = .ok (.istore 4, 2) := by decide +kernel
theorem dX10_pagesWith_52 : decode cX10_pagesWith 52 = .ok (.iinc 5 1, 3) := by decide +kernel
theorem dX10_pagesWith_55 : decode cX10_pagesWith 55 = .ok (.goto (-37), 3) := by decide +kernel
theorem dX10_pagesWith_58 : decode cX10_pagesWith 58 = .ok (.iload_n 2, 1) := by decide +kernel
theorem dX10_pagesWith_59 : decode cX10_pagesWith 59 = .ok (.iload 4, 2) := by decide +kernel
theorem dX10_pagesWith_61 : decode cX10_pagesWith 61 = .ok (.ifCond .eq 7, 3) := by decide +kernel
theorem dX10_pagesWith_64 : decode cX10_pagesWith 64 = .ok (.iconst 1, 1) := by decide +kernel
theorem dX10_pagesWith_65 : decode cX10_pagesWith 65 = .ok (.goto 4, 3) := by decide +kernel
theorem dX10_pagesWith_68 : decode cX10_pagesWith 68 = .ok (.iconst 0, 1) := by decide +kernel
theorem dX10_pagesWith_69 : decode cX10_pagesWith 69 = .ok (.iadd, 1) := by decide +kernel
theorem dX10_pagesWith_70 : decode cX10_pagesWith 70 = .ok (.istore_n 2, 1) := by decide +kernel
theorem dX10_pagesWith_71 : decode cX10_pagesWith 71 = .ok (.iinc 3 1, 3) := by decide +kernel
theorem dX10_pagesWith_74 : decode cX10_pagesWith 74 = .ok (.goto (-70), 3) := by decide +kernel
theorem dX10_pagesWith_77 : decode cX10_pagesWith 77 = .ok (.iload_n 2, 1) := by decide +kernel
theorem dX10_pagesWith_78 : decode cX10_pagesWith 78 = .ok (.ireturn, 1) := by decide +kernel
theorem dX10_tokenOf_0 : decode cX10_tokenOf 0 = .ok (.aload_n 0, 1) := by decide +kernel
theorem dX10_tokenOf_1 : decode cX10_tokenOf 1 = .ok (.iconst 0, 1) := by decide +kernel
theorem dX10_tokenOf_2 : decode cX10_tokenOf 2 = .ok (.putfield 127, 3) := by decide +kernel
theorem dX10_tokenOf_5 : decode cX10_tokenOf 5 = .ok (.aload_n 0, 1) := by decide +kernel
theorem dX10_tokenOf_6 : decode cX10_tokenOf 6 = .ok (.iload_n 1, 1) := by decide +kernel
theorem dX10_tokenOf_7 : decode cX10_tokenOf 7 = .ok (.iconst 0, 1) := by decide +kernel
theorem dX10_tokenOf_8 : decode cX10_tokenOf 8 = .ok (.aload_n 0, 1) := by decide +kernel
theorem dX10_tokenOf_9 : decode cX10_tokenOf 9 = .ok (.getfield 170, 3) := by decide +kernel
theorem dX10_tokenOf_12 : decode cX10_tokenOf 12 = .ok (.iconst 1, 1) := by decide +kernel
theorem dX10_tokenOf_13 : decode cX10_tokenOf 13 = .ok (.isub, 1) := by decide +kernel
theorem dX10_tokenOf_14 : decode cX10_tokenOf 14 = .ok (.invokestatic 173, 3) := by decide +kernel
theorem dX10_tokenOf_17 : decode cX10_tokenOf 17 = .ok (.ifCond .ne 7, 3) := by decide +kernel
theorem dX10_tokenOf_20 : decode cX10_tokenOf 20 = .ok (.iconst 1, 1) := by decide +kernel
theorem dX10_tokenOf_21 : decode cX10_tokenOf 21 = .ok (.goto 4, 3) := by decide +kernel
theorem dX10_tokenOf_24 : decode cX10_tokenOf 24 = .ok (.iconst 0, 1) := by decide +kernel
theorem dX10_tokenOf_25 : decode cX10_tokenOf 25 = .ok (.iconst 1, 1) := by decide +kernel
theorem dX10_tokenOf_26 : decode cX10_tokenOf 26 = .ok (.iconst 0, 1) := by decide +kernel
theorem dX10_tokenOf_27 : decode cX10_tokenOf 27 = .ok (.invokevirtual 177, 3) := by decide +kernel
theorem dX10_tokenOf_30 : decode cX10_tokenOf 30 = .ok (.ifCond .ne 27, 3) := by decide +kernel
theorem dX10_tokenOf_33 : decode cX10_tokenOf 33 = .ok (.aload_n 0, 1) := by decide +kernel
theorem dX10_tokenOf_34 : decode cX10_tokenOf 34 = .ok (.iload_n 2, 1) := by decide +kernel
theorem dX10_tokenOf_35 : decode cX10_tokenOf 35 = .ok (.iconst 0, 1) := by decide +kernel
theorem dX10_tokenOf_36 : decode cX10_tokenOf 36 = .ok (.bipush 8, 2) := by decide +kernel
theorem dX10_tokenOf_38 : decode cX10_tokenOf 38 = .ok (.invokestatic 173, 3) := by decide +kernel
theorem dX10_tokenOf_41 : decode cX10_tokenOf 41 = .ok (.ifCond .ne 7, 3) := by decide +kernel
theorem dX10_tokenOf_44 : decode cX10_tokenOf 44 = .ok (.iconst 1, 1) := by decide +kernel
theorem dX10_tokenOf_45 : decode cX10_tokenOf 45 = .ok (.goto 4, 3) := by decide +kernel
theorem dX10_tokenOf_48 : decode cX10_tokenOf 48 = .ok (.iconst 0, 1) := by decide +kernel
theorem dX10_tokenOf_49 : decode cX10_tokenOf 49 = .ok (.iconst 2, 1) := by decide +kernel
theorem dX10_tokenOf_50 : decode cX10_tokenOf 50 = .ok (.iconst 1, 1) := by decide +kernel
theorem dX10_tokenOf_51 : decode cX10_tokenOf 51 = .ok (.invokevirtual 177, 3) := by decide +kernel
theorem dX10_tokenOf_54 : decode cX10_tokenOf 54 = .ok (.ifCond .eq 5, 3) := by decide +kernel
theorem dX10_tokenOf_57 : decode cX10_tokenOf 57 = .ok (.iconst 0, 1) := by decide +kernel
theorem dX10_tokenOf_58 : decode cX10_tokenOf 58 = .ok (.ireturn, 1) := by decide +kernel
theorem dX10_tokenOf_59 : decode cX10_tokenOf 59 = .ok (.iload_n 2, 1) := by decide +kernel
theorem dX10_tokenOf_60 : decode cX10_tokenOf 60 = .ok (.ifCond .ne 12, 3) := by decide +kernel
theorem dX10_tokenOf_63 : decode cX10_tokenOf 63 = .ok (.aload_n 0, 1) := by decide +kernel
theorem dX10_tokenOf_64 : decode cX10_tokenOf 64 = .ok (.getfield 20, 3) := by decide +kernel
theorem dX10_tokenOf_67 : decode cX10_tokenOf 67 = .ok (.iload_n 1, 1) := by decide +kernel
theorem dX10_tokenOf_68 : decode cX10_tokenOf 68 = .ok (.iaload, 1) := by decide +kernel
theorem dX10_tokenOf_69 : decode cX10_tokenOf 69 = .ok (.goto 39, 3) := by decide +kernel
theorem dX10_tokenOf_72 : decode cX10_tokenOf 72 = .ok (.iload_n 2, 1) := by decide +kernel
theorem dX10_tokenOf_73 : decode cX10_tokenOf 73 = .ok (.iconst 1, 1) := by decide +kernel
theorem dX10_tokenOf_74 : decode cX10_tokenOf 74 = .ok (.if_icmp .ne 12, 3) := by decide +kernel
theorem dX10_tokenOf_77 : decode cX10_tokenOf 77 = .ok (.aload_n 0, 1) := by decide +kernel
theorem dX10_tokenOf_78 : decode cX10_tokenOf 78 = .ok (.getfield 26, 3) := by decide +kernel
theorem dX10_tokenOf_81 : decode cX10_tokenOf 81 = .ok (.iload_n 1, 1) := by decide +kernel
theorem dX10_tokenOf_82 : decode cX10_tokenOf 82 = .ok (.iaload, 1) := by decide +kernel
theorem dX10_tokenOf_83 : decode cX10_tokenOf 83 = .ok (.goto 25, 3) := by decide +kernel
theorem dX10_tokenOf_86 : decode cX10_tokenOf 86 = .ok (.iload_n 2, 1) := by decide +kernel
theorem dX10_tokenOf_87 : decode cX10_tokenOf 87 = .ok (.bipush 8, 2) := by decide +kernel
theorem dX10_tokenOf_89 : decode cX10_tokenOf 89 = .ok (.if_icmp .ge 14, 3) := by decide +kernel
theorem dX10_tokenOf_92 : decode cX10_tokenOf 92 = .ok (.aload_n 0, 1) := by decide +kernel
theorem dX10_tokenOf_93 : decode cX10_tokenOf 93 = .ok (.iload_n 1, 1) := by decide +kernel
theorem dX10_tokenOf_94 : decode cX10_tokenOf 94 = .ok (.iload_n 2, 1) := by decide +kernel
theorem dX10_tokenOf_95 : decode cX10_tokenOf 95 = .ok (.iconst 2, 1) := by decide +kernel
theorem dX10_tokenOf_96 : decode cX10_tokenOf 96 = .ok (.isub, 1) := by decide +kernel
theorem dX10_tokenOf_97 : decode cX10_tokenOf 97 = .ok (.invokevirtual 352, 3) := by decide +kernel
theorem dX10_tokenOf_100 : decode cX10_tokenOf 100 = .ok (.goto 8, 3) := by decide +kernel
theorem dX10_tokenOf_103 : decode cX10_tokenOf 103 = .ok (.aload_n 0, 1) := by decide +kernel
theorem dX10_tokenOf_104 : decode cX10_tokenOf 104 = .ok (.iload_n 1, 1) := by decide +kernel
theorem dX10_tokenOf_105 : decode cX10_tokenOf 105 = .ok (.invokevirtual 355, 3) := by decide +kernel
theorem dX10_tokenOf_108 : decode cX10_tokenOf 108 = .ok (.ireturn, 1) := by decide +kernel
set_option maxHeartbeats 4000000 in
set_option maxRecDepth 100000 in
theorem LX10_pagesWith_18 {p : Program} {l : Launch} {e : Env} {R : Room} {s : State} {m : MethodId} {args : Array Value} {below : List Frame} {meth : Method} {c : Code} {cells slots : Nat} {Q : State → Prop} {dC : Nat → ClassId} {dI : Nat → Nat → Nat} {h0 : Nat} {cI cZ cII cIII : ClassId} (hx : p.tables.exec = Jvm.exec) (hb : c.code = cX10_pagesWith) (hml : c.maxLocals = 6) (hown : s.vm.findClass RX10 = some m.cls) (hts : ∀ w ∈ wsG, w.before args s = true) (hK : va_K (dC, dI) vwCl (mT cI cZ cII cIII) s) (hRf : 1 ≤ R.frames) (hRl : 14 ≤ R.locals) (hRc : cells ≤ R.cells) (hRs : slots ≤ R.slots) (μ0 : va_M) (pp : Int) (n : Int) (q : Int) (hpp : 0 ≤ pp ∧ pp < μ0 0 10) (hQ : RQ μ0) (hq : inR q) (hexit58 : ∀ (is9 : Int) (k : Int) (μ : va_M) (H : Heap) (locs : List Loc) (ls : Array Slot), (μ = μ0) → (inR is9) → va_P (dC, dI) vwCl (fw (mE cI cZ cII cIII h0) h0 6325 μ) H → va_S (fA h0 6325 s.heap.size) s.heap H locs → lv_has ls 6 [(4, .int (iZ (is9))), (3, .int (iZ (pp))), (2, .int (iZ (n))), (1, .int (iZ (q))), (0, .ref h0)] → W p l e R s m args below meth c H locs cells slots Q (F0 m 58 ls [])) :
    ∀ (n9 : Nat) (is9 : Int) (k : Int) (μ : va_M) (H : Heap) (locs : List Loc) (ls : Array Slot), (μ = μ0) → (0 ≤ k ∧ k ≤ μ0 15 pp.toNat) → (inR is9) → (100 - k).toNat < n9 → va_P (dC, dI) vwCl (fw (mE cI cZ cII cIII h0) h0 6325 μ) H → va_S (fA h0 6325 s.heap.size) s.heap H locs → lv_has ls 6 [(5, .int (iZ (k))), (4, .int (iZ (is9))), (3, .int (iZ (pp))), (2, .int (iZ (n))), (1, .int (iZ (q))), (0, .ref h0)] → W p l e R s m args below meth c H locs cells slots Q (F0 m 18 ls []) := by
  intro n9
  induction n9 with
  | zero => intro is9 k μ H locs ls hm hk hi hm9 hP hS hl; exact absurd hm9 (Nat.not_lt_zero _)
  | succ n9 ih =>
    intro is9 k μ H locs ls hm hk hi hm9 hP hS hl
    subst hm
    obtain ⟨k10, ⟨kT, kTb, kTw⟩, kS3, kPg, kw, kwB, kwT⟩ := hQ
    obtain ⟨p1, p2, p3, pw, pw1, pw2, pw3⟩ := kPg pp.toNat (by omega)
    have hT9 := kTb.1
    have hT8 := kTb.2.1
    refine lv_iload hx hb dX10_pagesWith_18 (lv_at hl 0 rfl) ?_
    refine lv_aload_n hx hb dX10_pagesWith_20 rfl (lv_at hl 5 rfl) ?_
    refine fz_get (D := (dC, dI)) (ci := 10) (v := .ref (h0 + 15)) (C := RX10) (T := TX10) (N := 53) hx hb hts inG10 hown hK hP (k := 0) (by decide) (F := mF h0) mE_obj rfl 15 (by decide) (hts _ k1181) (fun _ h9 => h9) rfl dX10_pagesWith_21 ?_
    refine lv_iload_n hx hb dX10_pagesWith_24 rfl (lv_at hl 2 rfl) ?_
    refine fz_ld (k := 15) (n := 8) hx hb hK hP 0 (by decide) mE_pageLong rfl ⟨by omega, by omega⟩ (by decide) dX10_pagesWith_25 ?_
    refine fz_icmp_ge (tgt := 58) (by constructor <;> omega) (by constructor <;> omega) hx hb dX10_pagesWith_26 (by decide) (fun c26_ => ?_) (fun c26_ => ?_)
    · exact hexit58 (is9) (k) μ H locs ls (by rfl) (by exact hi) hP hS (lv_sub hl [1, 2, 3, 4, 5] rfl)
    · have h9 := p3 k.toNat (by omega)
      refine lv_iload hx hb dX10_pagesWith_29 (lv_at hl 1 rfl) ?_
      refine lv_aload_n hx hb dX10_pagesWith_31 rfl (lv_at hl 5 rfl) ?_
      refine fz_get (D := (dC, dI)) (ci := 10) (v := .ref (h0 + 6)) (C := RX10) (T := TX10) (N := 53) hx hb hts inG10 hown hK hP (k := 0) (by decide) (F := mF h0) mE_obj rfl 14 (by decide) (hts _ k1180) (fun _ h9 => h9) rfl dX10_pagesWith_32 ?_
      refine lv_iload_n hx hb dX10_pagesWith_35 rfl (lv_at hl 2 rfl) ?_
      refine fz_ald (k := 6) (n := 8) (k2 := (7 + (pp).toNat)) hx hb hK hP 2 rfl (by decide) mE_page rfl ⟨by omega, by omega⟩ (by decide) (if_pos (by omega)) dX10_pagesWith_36 ?_
      refine lv_iload hx hb dX10_pagesWith_37 (lv_at hl 0 rfl) ?_
      refine fz_ld (k := (7 + (pp).toNat)) (n := 60) hx hb hK hP 0 (by omega) (mE_pageR (by omega)) rfl ⟨by omega, by omega⟩ (by decide) dX10_pagesWith_39 ?_
      refine lv_iload_n hx hb dX10_pagesWith_40 rfl (lv_at hl 4 rfl) ?_
      refine fz_icmp_ne (tgt := 48) (by first | exact hq | (constructor <;> omega)) (by first | exact hq | (constructor <;> omega)) hx hb dX10_pagesWith_41 (by decide) (fun c41_ => ?_) (fun c41_ => ?_)
      · refine lv_iconst (v := iZ 0) hx hb dX10_pagesWith_48 rfl ?_
        refine lv_ior hx hb dX10_pagesWith_49 ?_
        refine lv_topi (fun x9 ex9 => ?_)
        obtain ⟨z1, rfl, hz1⟩ := iZ_ex x9
        have ez1 := ex9; clear ex9
        refine lv_istore (lv' := [(4, .int (iZ (z1))), (5, .int (iZ (k))), (3, .int (iZ (pp))), (2, .int (iZ (n))), (1, .int (iZ (q))), (0, .ref h0)]) hx hb dX10_pagesWith_50 hl (by decide) rfl (fun ls hl => ?_)
        refine lv_iinc (v := iZ (k + 1)) (lv' := [(5, .int (iZ (k + 1))), (4, .int (iZ (z1))), (3, .int (iZ (pp))), (2, .int (iZ (n))), (1, .int (iZ (q))), (0, .ref h0)]) hx hb dX10_pagesWith_52 hl (k := 1) rfl (iZ_add _ _) (by decide) rfl (fun ls hl => ?_)
        refine lv_goto (tgt := 18) hx hb dX10_pagesWith_55 (by decide) ?_
        exact ih (z1) (k + 1) μ H locs ls (by rfl) (by omega) (by first | exact hz1 | assumption) (by omega) hP hS (lv_sub hl [0, 1, 2, 3, 4, 5] rfl)
      · refine lv_iconst (v := iZ 1) hx hb dX10_pagesWith_44 rfl ?_
        refine lv_goto (tgt := 49) hx hb dX10_pagesWith_45 (by decide) ?_
        refine lv_ior hx hb dX10_pagesWith_49 ?_
        refine lv_topi (fun x9 ex9 => ?_)
        obtain ⟨z2, rfl, hz2⟩ := iZ_ex x9
        have ez2 := ex9; clear ex9
        refine lv_istore (lv' := [(4, .int (iZ (z2))), (5, .int (iZ (k))), (3, .int (iZ (pp))), (2, .int (iZ (n))), (1, .int (iZ (q))), (0, .ref h0)]) hx hb dX10_pagesWith_50 hl (by decide) rfl (fun ls hl => ?_)
        refine lv_iinc (v := iZ (k + 1)) (lv' := [(5, .int (iZ (k + 1))), (4, .int (iZ (z2))), (3, .int (iZ (pp))), (2, .int (iZ (n))), (1, .int (iZ (q))), (0, .ref h0)]) hx hb dX10_pagesWith_52 hl (k := 1) rfl (iZ_add _ _) (by decide) rfl (fun ls hl => ?_)
        refine lv_goto (tgt := 18) hx hb dX10_pagesWith_55 (by decide) ?_
        exact ih (z2) (k + 1) μ H locs ls (by rfl) (by omega) (by first | exact hz2 | assumption) (by omega) hP hS (lv_sub hl [0, 1, 2, 3, 4, 5] rfl)
set_option maxHeartbeats 4000000 in
set_option maxRecDepth 100000 in
theorem LX10_pagesWith_4 {p : Program} {l : Launch} {e : Env} {R : Room} {s : State} {m : MethodId} {args : Array Value} {below : List Frame} {meth : Method} {c : Code} {cells slots : Nat} {Q : State → Prop} {dC : Nat → ClassId} {dI : Nat → Nat → Nat} {h0 : Nat} {cI cZ cII cIII : ClassId} (hx : p.tables.exec = Jvm.exec) (hb : c.code = cX10_pagesWith) (hml : c.maxLocals = 6) (hown : s.vm.findClass RX10 = some m.cls) (hts : ∀ w ∈ wsG, w.before args s = true) (hK : va_K (dC, dI) vwCl (mT cI cZ cII cIII) s) (hRf : 1 ≤ R.frames) (hRl : 14 ≤ R.locals) (hRc : cells ≤ R.cells) (hRs : slots ≤ R.slots) (μ0 : va_M) (q : Int) (hQ : RQ μ0) (hq : inR q) (hexit77 : ∀ (n : Int) (pp : Int) (μ : va_M) (H : Heap) (locs : List Loc) (ls : Array Slot), (μ = μ0) → va_P (dC, dI) vwCl (fw (mE cI cZ cII cIII h0) h0 6325 μ) H → va_S (fA h0 6325 s.heap.size) s.heap H locs → lv_has ls 6 [(2, .int (iZ (n)))] → W p l e R s m args below meth c H locs cells slots Q (F0 m 77 ls [])) :
    ∀ (n9 : Nat) (n : Int) (pp : Int) (μ : va_M) (H : Heap) (locs : List Loc) (ls : Array Slot), (μ = μ0) → (0 ≤ pp ∧ pp ≤ μ0 0 10) → (0 ≤ n ∧ n ≤ pp) → (100 - pp).toNat < n9 → va_P (dC, dI) vwCl (fw (mE cI cZ cII cIII h0) h0 6325 μ) H → va_S (fA h0 6325 s.heap.size) s.heap H locs → lv_has ls 6 [(3, .int (iZ (pp))), (2, .int (iZ (n))), (1, .int (iZ (q))), (0, .ref h0)] → W p l e R s m args below meth c H locs cells slots Q (F0 m 4 ls []) := by
  intro n9
  induction n9 with
  | zero => intro n pp μ H locs ls hm hk hn hm9 hP hS hl; exact absurd hm9 (Nat.not_lt_zero _)
  | succ n9 ih =>
    intro n pp μ H locs ls hm hk hn hm9 hP hS hl
    subst hm
    have k10 := hQ.1
    refine lv_iload_n hx hb dX10_pagesWith_4 rfl (lv_at hl 0 rfl) ?_
    refine lv_aload_n hx hb dX10_pagesWith_5 rfl (lv_at hl 3 rfl) ?_
    refine fz_get (D := (dC, dI)) (ci := 10) (v := .int (iZ (μ 0 10))) (C := RX10) (T := TX10) (N := 53) hx hb hts inG10 hown hK hP (k := 0) (by decide) (F := mF h0) mE_obj rfl 10 (by decide) (hts _ k1176) (fun _ h9 => h9) rfl dX10_pagesWith_6 ?_
    refine fz_icmp_ge (tgt := 77) (by constructor <;> omega) (by constructor <;> omega) hx hb dX10_pagesWith_9 (by decide) (fun c9_ => ?_) (fun c9_ => ?_)
    · exact hexit77 (n) (pp) μ H locs ls (by rfl) hP hS (lv_sub hl [1] rfl)
    · refine lv_iconst (v := iZ 0) hx hb dX10_pagesWith_12 rfl ?_
      refine lv_istore (lv' := [(4, .int (iZ (0))), (3, .int (iZ (pp))), (2, .int (iZ (n))), (1, .int (iZ (q))), (0, .ref h0)]) hx hb dX10_pagesWith_13 hl (by decide) rfl (fun ls hl => ?_)
      refine lv_iconst (v := iZ 0) hx hb dX10_pagesWith_15 rfl ?_
      refine lv_istore (lv' := [(5, .int (iZ (0))), (4, .int (iZ (0))), (3, .int (iZ (pp))), (2, .int (iZ (n))), (1, .int (iZ (q))), (0, .ref h0)]) hx hb dX10_pagesWith_16 hl (by decide) rfl (fun ls hl => ?_)
      refine LX10_pagesWith_18 hx hb hml hown hts hK hRf hRl hRc hRs (μ) (pp) (n) (q) (by omega) (by assumption) (by assumption) ?_ _ (0) (0) μ H locs ls (by rfl) (by
                    obtain ⟨p1, _⟩ := hQ.2.2.2.1 pp.toNat (by omega)
                    omega) (by constructor <;> decide) (Nat.lt_succ_self _) hP hS (lv_sub hl [0, 1, 2, 3, 4, 5] rfl)
      · intro is9_3 k_3 μ3_ H locs ls q1_3 q2_3 hP hS hl
        have hl : lv_has ls 6 [(4, .int (iZ (is9_3))), (3, .int (iZ (pp))), (2, .int (iZ (n))), (1, .int (iZ (q))), (0, .ref h0)] := hl
        have hPn := hP
        obtain rfl := q1_3
        have hP := hPn
        refine lv_iload_n hx hb dX10_pagesWith_58 rfl (lv_at hl 2 rfl) ?_
        refine lv_iload hx hb dX10_pagesWith_59 (lv_at hl 0 rfl) ?_
        refine fz_if_eq (tgt := 68) (by exact q2_3) hx hb dX10_pagesWith_61 (by decide) (fun c61_ => ?_) (fun c61_ => ?_)
        · refine lv_iconst (v := iZ 0) hx hb dX10_pagesWith_68 rfl ?_
          refine lv_iadd hx hb dX10_pagesWith_69 ?_
          refine lv_topi (fun x9 ex9 => ?_)
          obtain rfl : x9 = iZ (n + 0) := ex9.trans (iZ_add _ _)
          refine lv_istore_n (lv' := [(2, .int (iZ (n + 0))), (4, .int (iZ (is9_3))), (3, .int (iZ (pp))), (1, .int (iZ (q))), (0, .ref h0)]) hx hb dX10_pagesWith_70 rfl hl (by decide) rfl (fun ls hl => ?_)
          refine lv_iinc (v := iZ (pp + 1)) (lv' := [(3, .int (iZ (pp + 1))), (2, .int (iZ (n + 0))), (4, .int (iZ (is9_3))), (1, .int (iZ (q))), (0, .ref h0)]) hx hb dX10_pagesWith_71 hl (k := 2) rfl (iZ_add _ _) (by decide) rfl (fun ls hl => ?_)
          refine lv_goto (tgt := 4) hx hb dX10_pagesWith_74 (by decide) ?_
          exact ih (n + 0) (pp + 1) μ3_ H locs ls (by rfl) (by omega) (by omega) (by omega) hP hS (lv_sub hl [0, 1, 3, 4] rfl)
        · refine lv_iconst (v := iZ 1) hx hb dX10_pagesWith_64 rfl ?_
          refine lv_goto (tgt := 69) hx hb dX10_pagesWith_65 (by decide) ?_
          refine lv_iadd hx hb dX10_pagesWith_69 ?_
          refine lv_topi (fun x9 ex9 => ?_)
          obtain rfl : x9 = iZ (n + 1) := ex9.trans (iZ_add _ _)
          refine lv_istore_n (lv' := [(2, .int (iZ (n + 1))), (4, .int (iZ (is9_3))), (3, .int (iZ (pp))), (1, .int (iZ (q))), (0, .ref h0)]) hx hb dX10_pagesWith_70 rfl hl (by decide) rfl (fun ls hl => ?_)
          refine lv_iinc (v := iZ (pp + 1)) (lv' := [(3, .int (iZ (pp + 1))), (2, .int (iZ (n + 1))), (4, .int (iZ (is9_3))), (1, .int (iZ (q))), (0, .ref h0)]) hx hb dX10_pagesWith_71 hl (k := 2) rfl (iZ_add _ _) (by decide) rfl (fun ls hl => ?_)
          refine lv_goto (tgt := 4) hx hb dX10_pagesWith_74 (by decide) ?_
          exact ih (n + 1) (pp + 1) μ3_ H locs ls (by rfl) (by omega) (by omega) (by omega) hP hS (lv_sub hl [0, 1, 3, 4] rfl)
set_option maxHeartbeats 4000000 in
set_option maxRecDepth 100000 in
theorem m_pagesWith (l : Launch) (dC : Nat → ClassId) (dI : Nat → Nat → Nat) (cI cZ cII cIII : ClassId) (h0 sz : Nat) (μ : va_M) (q : Int) (hQ : RQ μ) (hq : inR q) : Met l yX10_pagesWith (Cond.code yX10_pagesWith cX10_pagesWith 6 (some .int) :: wsG) ({ frames := 1, cells := 0, slots := 0, locals := 14 } : Room) (va_Pc [.ref h0, .int (iZ (q))] (fun U => U.heap.size = sz ∧ va_P (dC, dI) vwCl (fw (mE cI cZ cII cIII h0) h0 6325 μ) U.heap ∧ va_K (dC, dI) vwCl (mT cI cZ cII cIII) U)) (va_Qi (fun (r9 : Int32) (u : va_M × Int) => r9 = iZ u.2 ∧ (fun (u : va_M) (r : Int) => u = μ) u.1 u.2) (fun u t => va_P (dC, dI) vwCl (fw (mE cI cZ cII cIII h0) h0 6325 u.1) t.heap ∧ va_K (dC, dI) vwCl (mT cI cZ cII cIII) t) (fA h0 6325 sz)) 0 0 (fA h0 6325 sz) := by
  refine Met.ofW (cc := cX10_pagesWith) (maxL := 6) (ret := (some .int)) (by decide) rfl ?_
  intro p e s m args below meth c s₁ B hml hv
  obtain ⟨rfl, hsz, hP, hK⟩ := hv
  have hx := B.exec
  have hb := B.bytes
  have hr := B.returns
  have hts : ∀ w ∈ wsG, w.before _ s = true := hG_of (atoms_spec (ws := (Cond.code yX10_pagesWith cX10_pagesWith 6 (some .int) :: wsG)) B.pre)
  have hown : s.vm.findClass RX10 = some m.cls := findClass_of_methodNamed B.named
  have hlocks := B.notSynchronized
  subst hsz
  have hS : va_S (fA h0 6325 s.heap.size) s.heap s.heap [] := va_S.rf
  have hl := lv_entry ([.ref h0, .int (iZ (q))]) (n := 6) (Nat.le_of_ble_eq_true rfl)
  rw [lg_entry_eq]
  generalize (lg_sl ([.ref h0, .int (iZ (q))]) ++ List.replicate (6 - (lg_sl ([.ref h0, .int (iZ (q))])).length) Slot.unset).toArray = ls at hl ⊢
  have hl : lv_has ls 6 [(0, .ref h0), (1, .int (iZ (q)))] := hl
  refine lv_iconst (v := iZ 0) hx hb dX10_pagesWith_0 rfl ?_
  refine lv_istore_n (lv' := [(2, .int (iZ (0))), (0, .ref h0), (1, .int (iZ (q)))]) hx hb dX10_pagesWith_1 rfl hl (by decide) rfl (fun ls hl => ?_)
  refine lv_iconst (v := iZ 0) hx hb dX10_pagesWith_2 rfl ?_
  refine lv_istore_n (lv' := [(3, .int (iZ (0))), (2, .int (iZ (0))), (0, .ref h0), (1, .int (iZ (q)))]) hx hb dX10_pagesWith_3 rfl hl (by decide) rfl (fun ls hl => ?_)
  refine LX10_pagesWith_4 hx hb hml hown hts hK (Nat.le_of_ble_eq_true rfl) (Nat.le_of_ble_eq_true rfl) (Nat.le_of_ble_eq_true rfl) (Nat.le_of_ble_eq_true rfl) (μ) (q) (by assumption) (by assumption) ?_ _ (0) (0) μ s.heap [] ls (by rfl) (by have := hQ.1; omega) (by omega) (Nat.lt_succ_self _) hP hS (lv_sub hl [0, 1, 3, 2] rfl)
  · intro n_4 pp_4 μ4_ H locs ls q3_4 hP hS hl
    have hl : lv_has ls 6 [(2, .int (iZ (n_4)))] := hl
    refine lv_iload_n hx hb dX10_pagesWith_77 rfl (lv_at hl 0 rfl) ?_
    exact W.iret (v := iZ (n_4)) hx hb hr (fun t9 ht9 hW9 => ⟨⟨iZ (n_4), (μ4_, n_4), rfl, ⟨rfl, (by
                dsimp only
                exact q3_4)⟩, by rw [ht9]; exact hP, va_K.moved hW9.alike hK⟩, hS.F ht9⟩) hS.2.2 dX10_pagesWith_78
set_option maxHeartbeats 4000000 in
set_option maxRecDepth 100000 in
theorem m_tokenOf (l : Launch) (dC : Nat → ClassId) (dI : Nat → Nat → Nat) (cI cZ cII cIII : ClassId) (h0 sz : Nat) (μ : va_M) (k : Int) (w : Int) (hQ : RQ μ) (hkR : inR k) (hw9 : inR w) : Met l yX10_tokenOf (Cond.code yX10_tokenOf cX10_tokenOf 3 (some .int) :: wsG) ({ frames := 2, cells := 0, slots := 0, locals := 39 } : Room) (va_Pc [.ref h0, .int (iZ (k)), .int (iZ (w))] (fun U => U.heap.size = sz ∧ va_P (dC, dI) vwCl (fw (mE cI cZ cII cIII h0) h0 6325 μ) U.heap ∧ va_K (dC, dI) vwCl (mT cI cZ cII cIII) U)) (va_Qi (fun (r9 : Int32) (u : va_M × Int) => r9 = iZ u.2 ∧ (fun (u : va_M) (r : Int) => fr PS μ u ∧ (u 0 0 = 0 ∨ u 0 0 = 1 ∨ u 0 0 = 2)) u.1 u.2) (fun u t => va_P (dC, dI) vwCl (fw (mE cI cZ cII cIII h0) h0 6325 u.1) t.heap ∧ va_K (dC, dI) vwCl (mT cI cZ cII cIII) t) (fA h0 6325 sz)) 0 0 (fA h0 6325 sz) := by
  refine Met.ofW (cc := cX10_tokenOf) (maxL := 3) (ret := (some .int)) (by decide) rfl ?_
  intro p e s m args below meth c s₁ B hml hv
  obtain ⟨rfl, hsz, hP, hK⟩ := hv
  have hx := B.exec
  have hb := B.bytes
  have hr := B.returns
  have hts : ∀ w ∈ wsG, w.before _ s = true := hG_of (atoms_spec (ws := (Cond.code yX10_tokenOf cX10_tokenOf 3 (some .int) :: wsG)) B.pre)
  have hown : s.vm.findClass RX10 = some m.cls := findClass_of_methodNamed B.named
  have hlocks := B.notSynchronized
  subst hsz
  have hS : va_S (fA h0 6325 s.heap.size) s.heap s.heap [] := va_S.rf
  have hl := lv_entry ([.ref h0, .int (iZ (k)), .int (iZ (w))]) (n := 3) (Nat.le_of_ble_eq_true rfl)
  rw [lg_entry_eq]
  generalize (lg_sl ([.ref h0, .int (iZ (k)), .int (iZ (w))]) ++ List.replicate (3 - (lg_sl ([.ref h0, .int (iZ (k)), .int (iZ (w))])).length) Slot.unset).toArray = ls at hl ⊢
  have hl : lv_has ls 3 [(0, .ref h0), (1, .int (iZ (k))), (2, .int (iZ (w)))] := hl
  refine lv_aload_n hx hb dX10_tokenOf_0 rfl (lv_at hl 0 rfl) ?_
  refine lv_iconst (v := iZ 0) hx hb dX10_tokenOf_1 rfl ?_
  refine fz_put (D := (dC, dI)) (ci := 10) (ty := .int) (z := 0) (C := RX10) (T := TX10) (N := 53) hx hb hts inG10 tyX10 tyX10_ok nmX10 hown hK hP fA_in hS (k := 0) (by decide) (F := mF h0) mE_obj rfl 0 (by decide) (hts _ k1166) (fun _ h9 => h9) rfl (by decide +kernel) rfl rfl (fun _ => Nat.le_of_ble_eq_true rfl) (fun _ _ => rfl) dX10_tokenOf_2 (fun H locs hP hS => ?_)
  obtain ⟨μ1, eμ1⟩ : ∃ x : va_M, x = uz μ 0 0 (0) := ⟨_, rfl⟩
  rw [← eμ1] at hP
  have hfr : fr PS μ μ1 := by rw [eμ1]; exact fr_uz fr_rfl (by unfold PS; omega)
  have ht0 : μ1 0 0 = 0 := by rw [eμ1, uz_s]
  have e10 := hfr 0 10 (PS_n (by omega))
  have e9 := hfr 0 9 (PS_n (by omega))
  have e71 := hfr 719 0 (PS_n (by omega))
  have hQ1 := RQ_fr hQ hfr
  have hQc := hQ
  obtain ⟨f10, ⟨fT, fTb, fTw⟩, fS3, fPg, fw9, fwB, fwT⟩ := hQc
  obtain ⟨g10, ⟨gT, gTb, gTw⟩, gS3, gPg, gw, gwB, gwT⟩ := hQ1
  have gtk := TR_tok gwT gwB.1 gwB.2.1
  have gt1 := gtk.1
  have gt2 := gtk.2.1
  have fT1 := fTb.1
  have fT2 := fTb.2.1
  refine lv_aload_n hx hb dX10_tokenOf_5 rfl (lv_at hl 0 rfl) ?_
  refine lv_iload_n hx hb dX10_tokenOf_6 rfl (lv_at hl 1 rfl) ?_
  refine lv_iconst (v := iZ 0) hx hb dX10_tokenOf_7 rfl ?_
  refine lv_aload_n hx hb dX10_tokenOf_8 rfl (lv_at hl 0 rfl) ?_
  refine fz_get (D := (dC, dI)) (ci := 10) (v := .int (iZ (μ1 0 9))) (C := RX10) (T := TX10) (N := 53) hx hb hts inG10 hown hK hP (k := 0) (by decide) (F := mF h0) mE_obj rfl 9 (by decide) (hts _ k1175) (fun _ h9 => h9) rfl dX10_tokenOf_9 ?_
  rw [show μ1 0 9 = μ 0 9 from by rw [eμ1, uz_n (by omega)]]
  refine lv_iconst (v := iZ 1) hx hb dX10_tokenOf_12 rfl ?_
  refine lv_isub hx hb dX10_tokenOf_13 ?_
  refine lv_topi (fun x9 ex9 => ?_)
  obtain rfl : x9 = iZ ((μ 0 9) - 1) := ex9.trans (iZ_sub _ _)
  refine va_calli (va_runS (As := [.int (iZ (k)), .int (iZ (0)), .int (iZ ((μ 0 9) - 1))]) (rest := [.ref h0]) ⟨hx, hb, hml, hown, hts⟩ (m_in l dC dI cI cZ cII cIII h0 H.size μ1 (k) (0) ((μ 0 9) - 1) (by first | assumption | omega | exact ⟨by omega, by omega⟩) (by first | assumption | omega | exact ⟨by omega, by omega⟩) (by first | assumption | omega | exact ⟨by omega, by omega⟩)) (cwS 3 hts (gS_G k1335 k1336 k13 k1337) rfl rfl rfl (by decide +kernel) ⟨Nat.le_of_ble_eq_true rfl, Nat.le_of_ble_eq_true rfl⟩) ⟨fun a U g mk q => by obtain ⟨q0, q1, qP, qK⟩ := q; exact ⟨q0, q1, qP, va_K.moved (u := U) (U := U.calling g mk a) (Vm.Alike.refl U.vm) qK⟩, fun U hU hW => ⟨rfl, by rw [hU], by rw [hU]; exact hP, va_K.moved hW.alike hK⟩⟩ rfl rfl hl.1 rfl (lv_room (Nat.le_of_ble_eq_true rfl)) dX10_tokenOf_14 ⟨Nat.le_of_ble_eq_true rfl, Nat.le_of_ble_eq_true rfl⟩) hS (fun q _ h => fA_le hS.1 q h) (fA_le hS.1) (fun r9 u9 t9 H1 locs ht9 hvm9 hw9 hB9 hz9 hk9 hS => ?_)
  obtain ⟨μ2, r3⟩ := u9
  obtain ⟨hP, -⟩ := hB9
  rw [ht9] at hP
  generalize H1 = H at hP hS ⊢
  obtain ⟨e9, hw9⟩ := hw9
  have e9 : r9 = iZ r3 := e9
  subst e9
  simp only at hP hw9
  have hμ2 := hw9; clear hw9
  rw [hμ2.1] at hP; have hμ2 := hμ2.2
  have hin := hμ2
  have hin2 := if_01 hμ2
  refine fz_if_ne (tgt := 24) (by constructor <;> omega) hx hb dX10_tokenOf_17 (by decide) (fun c17_ => ?_) (fun c17_ => ?_)
  · have hkk := if_get hin (by omega)
    refine lv_iconst (v := iZ 0) hx hb dX10_tokenOf_24 rfl ?_
    refine lv_iconst (v := iZ 1) hx hb dX10_tokenOf_25 rfl ?_
    refine lv_iconst (v := iZ 0) hx hb dX10_tokenOf_26 rfl ?_
    refine va_calli (va_runV (As := [.int (iZ (0)), .int (iZ (1)), .int (iZ (0))]) (rest := []) ⟨hx, hb, hml, hown, hts⟩ (m_bad2 l dC dI cI cZ cII cIII h0 H.size μ1 (0) (1) (0) (by first | assumption | omega | exact ⟨by omega, by omega⟩) (by first | assumption | omega | exact ⟨by omega, by omega⟩) (by first | assumption | omega | exact ⟨by omega, by omega⟩) (by first | assumption | omega | exact ⟨by omega, by omega⟩)) (cwV 3 hts (gV_G k1338 k1340 ks_yX10_bad k13 k1341) rfl rfl rfl (by decide +kernel) ⟨Nat.le_of_ble_eq_true rfl, Nat.le_of_ble_eq_true rfl⟩) ⟨fun a U g mk q => by obtain ⟨q0, q1, qP, qK⟩ := q; exact ⟨q0, q1, qP, va_K.moved (u := U) (U := U.calling g mk a) (Vm.Alike.refl U.vm) qK⟩, va_recv hK hP (ci := 10) (q0 := 0) rfl ((fw_get (by decide)).trans (by rw [mE_obj]; rfl)), fun U hU hW => ⟨rfl, by rw [hU], by rw [hU]; exact hP, va_K.moved hW.alike hK⟩⟩ rfl rfl hl.1 rfl (lv_room (Nat.le_of_ble_eq_true rfl)) dX10_tokenOf_27 ⟨Nat.le_of_ble_eq_true rfl, Nat.le_of_ble_eq_true rfl⟩) hS (fun q _ h => fA_le hS.1 q h) (fA_le hS.1) (fun r9 u9 t9 H1 locs ht9 hvm9 hw9 hB9 hz9 hk9 hS => ?_)
    obtain ⟨μ4, r5⟩ := u9
    obtain ⟨hP, -⟩ := hB9
    rw [ht9] at hP
    generalize H1 = H at hP hS ⊢
    obtain ⟨e9, hw9⟩ := hw9
    have e9 : r9 = iZ r5 := e9
    subst e9
    simp only at hP hw9
    have hμ4 := hw9; clear hw9
    have hfr := fr_trans hfr (badP_fr hμ4)
    have hrb := badP_r hμ4
    obtain rfl : r5 = 0 := by omega
    refine fz_if_ne (tgt := 57) (by decide) hx hb dX10_tokenOf_30 (by decide) (fun h9 => absurd h9 (by decide)) (fun c30_ => ?_)
    refine lv_aload_n hx hb dX10_tokenOf_33 rfl (lv_at hl 0 rfl) ?_
    refine lv_iload_n hx hb dX10_tokenOf_34 rfl (lv_at hl 2 rfl) ?_
    refine lv_iconst (v := iZ 0) hx hb dX10_tokenOf_35 rfl ?_
    refine lv_bipush (v := iZ 8) hx hb dX10_tokenOf_36 rfl ?_
    refine va_calli (va_runS (As := [.int (iZ (w)), .int (iZ (0)), .int (iZ (8))]) (rest := [.ref h0]) ⟨hx, hb, hml, hown, hts⟩ (m_in l dC dI cI cZ cII cIII h0 H.size μ4 (w) (0) (8) (by first | assumption | omega | exact ⟨by omega, by omega⟩) (by first | assumption | omega | exact ⟨by omega, by omega⟩) (by first | assumption | omega | exact ⟨by omega, by omega⟩)) (cwS 3 hts (gS_G k1335 k1336 k13 k1337) rfl rfl rfl (by decide +kernel) ⟨Nat.le_of_ble_eq_true rfl, Nat.le_of_ble_eq_true rfl⟩) ⟨fun a U g mk q => by obtain ⟨q0, q1, qP, qK⟩ := q; exact ⟨q0, q1, qP, va_K.moved (u := U) (U := U.calling g mk a) (Vm.Alike.refl U.vm) qK⟩, fun U hU hW => ⟨rfl, by rw [hU], by rw [hU]; exact hP, va_K.moved hW.alike hK⟩⟩ rfl rfl hl.1 rfl (lv_room (Nat.le_of_ble_eq_true rfl)) dX10_tokenOf_38 ⟨Nat.le_of_ble_eq_true rfl, Nat.le_of_ble_eq_true rfl⟩) hS (fun q _ h => fA_le hS.1 q h) (fA_le hS.1) (fun r9 u9 t9 H1 locs ht9 hvm9 hw9 hB9 hz9 hk9 hS => ?_)
    obtain ⟨μ6, r7⟩ := u9
    obtain ⟨hP, -⟩ := hB9
    rw [ht9] at hP
    generalize H1 = H at hP hS ⊢
    obtain ⟨e9, hw9⟩ := hw9
    have e9 : r9 = iZ r7 := e9
    subst e9
    simp only at hP hw9
    have hμ6 := hw9; clear hw9
    rw [hμ6.1] at hP; have hμ6 := hμ6.2
    have hin := hμ6
    have hin2 := if_01 hμ6
    refine fz_if_ne (tgt := 48) (by constructor <;> omega) hx hb dX10_tokenOf_41 (by decide) (fun c41_ => ?_) (fun c41_ => ?_)
    · have hw8 := if_get hin (by omega)
      refine lv_iconst (v := iZ 0) hx hb dX10_tokenOf_48 rfl ?_
      refine lv_iconst (v := iZ 2) hx hb dX10_tokenOf_49 rfl ?_
      refine lv_iconst (v := iZ 1) hx hb dX10_tokenOf_50 rfl ?_
      refine va_calli (va_runV (As := [.int (iZ (0)), .int (iZ (2)), .int (iZ (1))]) (rest := []) ⟨hx, hb, hml, hown, hts⟩ (m_bad2 l dC dI cI cZ cII cIII h0 H.size μ4 (0) (2) (1) (by first | assumption | omega | exact ⟨by omega, by omega⟩) (by first | assumption | omega | exact ⟨by omega, by omega⟩) (by first | assumption | omega | exact ⟨by omega, by omega⟩) (by first | assumption | omega | exact ⟨by omega, by omega⟩)) (cwV 3 hts (gV_G k1338 k1340 ks_yX10_bad k13 k1341) rfl rfl rfl (by decide +kernel) ⟨Nat.le_of_ble_eq_true rfl, Nat.le_of_ble_eq_true rfl⟩) ⟨fun a U g mk q => by obtain ⟨q0, q1, qP, qK⟩ := q; exact ⟨q0, q1, qP, va_K.moved (u := U) (U := U.calling g mk a) (Vm.Alike.refl U.vm) qK⟩, va_recv hK hP (ci := 10) (q0 := 0) rfl ((fw_get (by decide)).trans (by rw [mE_obj]; rfl)), fun U hU hW => ⟨rfl, by rw [hU], by rw [hU]; exact hP, va_K.moved hW.alike hK⟩⟩ rfl rfl hl.1 rfl (lv_room (Nat.le_of_ble_eq_true rfl)) dX10_tokenOf_51 ⟨Nat.le_of_ble_eq_true rfl, Nat.le_of_ble_eq_true rfl⟩) hS (fun q _ h => fA_le hS.1 q h) (fA_le hS.1) (fun r9 u9 t9 H1 locs ht9 hvm9 hw9 hB9 hz9 hk9 hS => ?_)
      obtain ⟨μ8, r10⟩ := u9
      obtain ⟨hP, -⟩ := hB9
      rw [ht9] at hP
      generalize H1 = H at hP hS ⊢
      obtain ⟨e9, hw9⟩ := hw9
      have e9 : r9 = iZ r10 := e9
      subst e9
      simp only at hP hw9
      have hμ8 := hw9; clear hw9
      have hfr := fr_trans hfr (badP_fr hμ8)
      have hrb := badP_r hμ8
      obtain rfl : r10 = 0 := by omega
      refine fz_if_eq (tgt := 59) (by decide) hx hb dX10_tokenOf_54 (by decide) (fun c54_ => ?_) (fun h9 => absurd h9 (by decide))
      have hQ2 := RQ_fr hQ hfr
      obtain ⟨k10, ⟨kT, kTb, kTw⟩, kS3, kPg, kw, kwB, kwT⟩ := hQ2
      have e10k := hfr 0 10 (PS_n (by omega))
      have e9k := hfr 0 9 (PS_n (by omega))
      have e71k := hfr 719 0 (PS_n (by omega))
      have ktk := TR_tok kwT kwB.1 kwB.2.1
      have kt1 := ktk.1
      have kt2 := ktk.2.1
      have kT1 := kTb.1
      have kT2 := kTb.2.1
      obtain ⟨te, hte⟩ : ∃ e, kT[k.toNat]? = some e := tab_get (by omega)
      have hc1 := kTb.2.2 _ _ hte
      have hc2 := kTw _ _ hte
      obtain ⟨c1, c2, c3⟩ := hc1
      obtain ⟨d1, d2, d3, d4, d5⟩ := hc2
      refine lv_iload_n hx hb dX10_tokenOf_59 rfl (lv_at hl 2 rfl) ?_
      refine fz_if_ne (tgt := 72) (by constructor <;> omega) hx hb dX10_tokenOf_60 (by decide) (fun c60_ => ?_) (fun c60_ => ?_)
      · refine lv_iload_n hx hb dX10_tokenOf_72 rfl (lv_at hl 2 rfl) ?_
        refine lv_iconst (v := iZ 1) hx hb dX10_tokenOf_73 rfl ?_
        refine fz_icmp_ne (tgt := 86) (by constructor <;> omega) (by decide) hx hb dX10_tokenOf_74 (by decide) (fun c74_ => ?_) (fun c74_ => ?_)
        · refine lv_iload_n hx hb dX10_tokenOf_86 rfl (lv_at hl 2 rfl) ?_
          refine lv_bipush (v := iZ 8) hx hb dX10_tokenOf_87 rfl ?_
          refine fz_icmp_ge (tgt := 103) (by constructor <;> omega) (by decide) hx hb dX10_tokenOf_89 (by decide) (fun c89_ => ?_) (fun c89_ => ?_)
          · refine lv_aload_n hx hb dX10_tokenOf_103 rfl (lv_at hl 0 rfl) ?_
            refine lv_iload_n hx hb dX10_tokenOf_104 rfl (lv_at hl 1 rfl) ?_
            refine va_calli (va_runV (As := [.int (iZ (k))]) (rest := []) ⟨hx, hb, hml, hown, hts⟩ (m_pagesWith l dC dI cI cZ cII cIII h0 H.size μ8 (k) (by exact RQ_fr hQ hfr) (by exact hkR)) (cwV 1 hts (gV_G k1611 k1613 ks_yX10_pagesWith k13 k1614) rfl rfl rfl (by decide +kernel) ⟨Nat.le_of_ble_eq_true rfl, Nat.le_of_ble_eq_true rfl⟩) ⟨fun a U g mk q => by obtain ⟨q0, q1, qP, qK⟩ := q; exact ⟨q0, q1, qP, va_K.moved (u := U) (U := U.calling g mk a) (Vm.Alike.refl U.vm) qK⟩, va_recv hK hP (ci := 10) (q0 := 0) rfl ((fw_get (by decide)).trans (by rw [mE_obj]; rfl)), fun U hU hW => ⟨rfl, by rw [hU], by rw [hU]; exact hP, va_K.moved hW.alike hK⟩⟩ rfl rfl hl.1 rfl (lv_room (Nat.le_of_ble_eq_true rfl)) dX10_tokenOf_105 ⟨Nat.le_of_ble_eq_true rfl, Nat.le_of_ble_eq_true rfl⟩) hS (fun q _ h => fA_le hS.1 q h) (fA_le hS.1) (fun r9 u9 t9 H1 locs ht9 hvm9 hw9 hB9 hz9 hk9 hS => ?_)
            obtain ⟨μ11, r12⟩ := u9
            obtain ⟨hP, -⟩ := hB9
            rw [ht9] at hP
            generalize H1 = H at hP hS ⊢
            obtain ⟨e9, hw9⟩ := hw9
            have e9 : r9 = iZ r12 := e9
            subst e9
            simp only at hP hw9
            have hμ11 := hw9; clear hw9
            rw [hμ11] at hP
            exact W.iret (v := iZ (r12)) hx hb hr (fun t9 ht9 hW9 => ⟨⟨iZ (r12), (μ8, r12), rfl, ⟨rfl, (by
                                dsimp only
                                exact ⟨hfr, by omega⟩)⟩, by rw [ht9]; exact hP, va_K.moved hW9.alike hK⟩, hS.F ht9⟩) hS.2.2 dX10_tokenOf_108
          · refine lv_aload_n hx hb dX10_tokenOf_92 rfl (lv_at hl 0 rfl) ?_
            refine lv_iload_n hx hb dX10_tokenOf_93 rfl (lv_at hl 1 rfl) ?_
            refine lv_iload_n hx hb dX10_tokenOf_94 rfl (lv_at hl 2 rfl) ?_
            refine lv_iconst (v := iZ 2) hx hb dX10_tokenOf_95 rfl ?_
            refine lv_isub hx hb dX10_tokenOf_96 ?_
            refine lv_topi (fun x9 ex9 => ?_)
            obtain rfl : x9 = iZ (w - 2) := ex9.trans (iZ_sub _ _)
            refine va_calli (va_runV (As := [.int (iZ (k)), .int (iZ (w - 2))]) (rest := []) ⟨hx, hb, hml, hown, hts⟩ (m_letter l dC dI cI cZ cII cIII h0 H.size μ8 (k) (w - 2) (by first | assumption | omega | exact ⟨by omega, by omega⟩) (by first | assumption | omega | exact ⟨by omega, by omega⟩) (by omega) (by omega)) (cwV 2 hts (gV_G k1607 k1609 ks_yX10_letter k13 k1610) rfl rfl rfl (by decide +kernel) ⟨Nat.le_of_ble_eq_true rfl, Nat.le_of_ble_eq_true rfl⟩) ⟨fun a U g mk q => by obtain ⟨q0, q1, qP, qK⟩ := q; exact ⟨q0, q1, qP, va_K.moved (u := U) (U := U.calling g mk a) (Vm.Alike.refl U.vm) qK⟩, va_recv hK hP (ci := 10) (q0 := 0) rfl ((fw_get (by decide)).trans (by rw [mE_obj]; rfl)), fun U hU hW => ⟨rfl, by rw [hU], by rw [hU]; exact hP, va_K.moved hW.alike hK⟩⟩ rfl rfl hl.1 rfl (lv_room (Nat.le_of_ble_eq_true rfl)) dX10_tokenOf_97 ⟨Nat.le_of_ble_eq_true rfl, Nat.le_of_ble_eq_true rfl⟩) hS (fun q _ h => fA_le hS.1 q h) (fA_le hS.1) (fun r9 u9 t9 H1 locs ht9 hvm9 hw9 hB9 hz9 hk9 hS => ?_)
            obtain ⟨μ13, r14⟩ := u9
            obtain ⟨hP, -⟩ := hB9
            rw [ht9] at hP
            generalize H1 = H at hP hS ⊢
            obtain ⟨e9, hw9⟩ := hw9
            have e9 : r9 = iZ r14 := e9
            subst e9
            simp only at hP hw9
            have hμ13 := hw9; clear hw9
            rw [hμ13] at hP
            refine lv_goto (tgt := 108) hx hb dX10_tokenOf_100 (by decide) ?_
            exact W.iret (v := iZ (r14)) hx hb hr (fun t9 ht9 hW9 => ⟨⟨iZ (r14), (μ8, r14), rfl, ⟨rfl, (by
                                dsimp only
                                exact ⟨hfr, by omega⟩)⟩, by rw [ht9]; exact hP, va_K.moved hW9.alike hK⟩, hS.F ht9⟩) hS.2.2 dX10_tokenOf_108
        · refine lv_aload_n hx hb dX10_tokenOf_77 rfl (lv_at hl 0 rfl) ?_
          refine fz_get (D := (dC, dI)) (ci := 10) (v := .ref (h0 + 5)) (C := RX10) (T := TX10) (N := 53) hx hb hts inG10 hown hK hP (k := 0) (by decide) (F := mF h0) mE_obj rfl 13 (by decide) (hts _ k1179) (fun _ h9 => h9) rfl dX10_tokenOf_78 ?_
          refine lv_iload_n hx hb dX10_tokenOf_81 rfl (lv_at hl 1 rfl) ?_
          refine fz_ld (k := 5) (n := 201) hx hb hK hP 0 (by decide) mE_tokenLong rfl ⟨by omega, by omega⟩ (by decide) dX10_tokenOf_82 ?_
          refine lv_goto (tgt := 108) hx hb dX10_tokenOf_83 (by decide) ?_
          exact W.iret (v := iZ (μ8 5 (k).toNat)) hx hb hr (fun t9 ht9 hW9 => ⟨⟨iZ (μ8 5 (k).toNat), (μ8, μ8 5 (k).toNat), rfl, ⟨rfl, (by
                            dsimp only
                            exact ⟨hfr, by omega⟩)⟩, by rw [ht9]; exact hP, va_K.moved hW9.alike hK⟩, hS.F ht9⟩) hS.2.2 dX10_tokenOf_108
      · refine lv_aload_n hx hb dX10_tokenOf_63 rfl (lv_at hl 0 rfl) ?_
        refine fz_get (D := (dC, dI)) (ci := 10) (v := .ref (h0 + 3)) (C := RX10) (T := TX10) (N := 53) hx hb hts inG10 hown hK hP (k := 0) (by decide) (F := mF h0) mE_obj rfl 11 (by decide) (hts _ k1177) (fun _ h9 => h9) rfl dX10_tokenOf_64 ?_
        refine lv_iload_n hx hb dX10_tokenOf_67 rfl (lv_at hl 1 rfl) ?_
        refine fz_ld (k := 3) (n := 201) hx hb hK hP 0 (by decide) mE_tokenSort rfl ⟨by omega, by omega⟩ (by decide) dX10_tokenOf_68 ?_
        refine lv_goto (tgt := 108) hx hb dX10_tokenOf_69 (by decide) ?_
        exact W.iret (v := iZ (μ8 3 (k).toNat)) hx hb hr (fun t9 ht9 hW9 => ⟨⟨iZ (μ8 3 (k).toNat), (μ8, μ8 3 (k).toNat), rfl, ⟨rfl, (by
                        dsimp only
                        exact ⟨hfr, by omega⟩)⟩, by rw [ht9]; exact hP, va_K.moved hW9.alike hK⟩, hS.F ht9⟩) hS.2.2 dX10_tokenOf_108
    · refine lv_iconst (v := iZ 1) hx hb dX10_tokenOf_44 rfl ?_
      refine lv_goto (tgt := 49) hx hb dX10_tokenOf_45 (by decide) ?_
      refine lv_iconst (v := iZ 2) hx hb dX10_tokenOf_49 rfl ?_
      refine lv_iconst (v := iZ 1) hx hb dX10_tokenOf_50 rfl ?_
      refine va_calli (va_runV (As := [.int (iZ (1)), .int (iZ (2)), .int (iZ (1))]) (rest := []) ⟨hx, hb, hml, hown, hts⟩ (m_bad2 l dC dI cI cZ cII cIII h0 H.size μ4 (1) (2) (1) (by first | assumption | omega | exact ⟨by omega, by omega⟩) (by first | assumption | omega | exact ⟨by omega, by omega⟩) (by first | assumption | omega | exact ⟨by omega, by omega⟩) (by first | assumption | omega | exact ⟨by omega, by omega⟩)) (cwV 3 hts (gV_G k1338 k1340 ks_yX10_bad k13 k1341) rfl rfl rfl (by decide +kernel) ⟨Nat.le_of_ble_eq_true rfl, Nat.le_of_ble_eq_true rfl⟩) ⟨fun a U g mk q => by obtain ⟨q0, q1, qP, qK⟩ := q; exact ⟨q0, q1, qP, va_K.moved (u := U) (U := U.calling g mk a) (Vm.Alike.refl U.vm) qK⟩, va_recv hK hP (ci := 10) (q0 := 0) rfl ((fw_get (by decide)).trans (by rw [mE_obj]; rfl)), fun U hU hW => ⟨rfl, by rw [hU], by rw [hU]; exact hP, va_K.moved hW.alike hK⟩⟩ rfl rfl hl.1 rfl (lv_room (Nat.le_of_ble_eq_true rfl)) dX10_tokenOf_51 ⟨Nat.le_of_ble_eq_true rfl, Nat.le_of_ble_eq_true rfl⟩) hS (fun q _ h => fA_le hS.1 q h) (fA_le hS.1) (fun r9 u9 t9 H1 locs ht9 hvm9 hw9 hB9 hz9 hk9 hS => ?_)
      obtain ⟨μ15, r16⟩ := u9
      obtain ⟨hP, -⟩ := hB9
      rw [ht9] at hP
      generalize H1 = H at hP hS ⊢
      obtain ⟨e9, hw9⟩ := hw9
      have e9 : r9 = iZ r16 := e9
      subst e9
      simp only at hP hw9
      have hμ15 := hw9; clear hw9
      have hfr := fr_trans hfr (badP_fr hμ15)
      have hrb := badP_r hμ15
      obtain rfl : r16 = 1 := by omega
      refine fz_if_eq (tgt := 59) (by decide) hx hb dX10_tokenOf_54 (by decide) (fun h9 => absurd h9 (by decide)) (fun c54_ => ?_)
      refine lv_iconst (v := iZ 0) hx hb dX10_tokenOf_57 rfl ?_
      exact W.iret (v := iZ (0)) hx hb hr (fun t9 ht9 hW9 => ⟨⟨iZ (0), (μ15, 0), rfl, ⟨rfl, (by
                    dsimp only
                    exact ⟨hfr, by omega⟩)⟩, by rw [ht9]; exact hP, va_K.moved hW9.alike hK⟩, hS.F ht9⟩) hS.2.2 dX10_tokenOf_58
  · refine lv_iconst (v := iZ 1) hx hb dX10_tokenOf_20 rfl ?_
    refine lv_goto (tgt := 25) hx hb dX10_tokenOf_21 (by decide) ?_
    refine lv_iconst (v := iZ 1) hx hb dX10_tokenOf_25 rfl ?_
    refine lv_iconst (v := iZ 0) hx hb dX10_tokenOf_26 rfl ?_
    refine va_calli (va_runV (As := [.int (iZ (1)), .int (iZ (1)), .int (iZ (0))]) (rest := []) ⟨hx, hb, hml, hown, hts⟩ (m_bad2 l dC dI cI cZ cII cIII h0 H.size μ1 (1) (1) (0) (by first | assumption | omega | exact ⟨by omega, by omega⟩) (by first | assumption | omega | exact ⟨by omega, by omega⟩) (by first | assumption | omega | exact ⟨by omega, by omega⟩) (by first | assumption | omega | exact ⟨by omega, by omega⟩)) (cwV 3 hts (gV_G k1338 k1340 ks_yX10_bad k13 k1341) rfl rfl rfl (by decide +kernel) ⟨Nat.le_of_ble_eq_true rfl, Nat.le_of_ble_eq_true rfl⟩) ⟨fun a U g mk q => by obtain ⟨q0, q1, qP, qK⟩ := q; exact ⟨q0, q1, qP, va_K.moved (u := U) (U := U.calling g mk a) (Vm.Alike.refl U.vm) qK⟩, va_recv hK hP (ci := 10) (q0 := 0) rfl ((fw_get (by decide)).trans (by rw [mE_obj]; rfl)), fun U hU hW => ⟨rfl, by rw [hU], by rw [hU]; exact hP, va_K.moved hW.alike hK⟩⟩ rfl rfl hl.1 rfl (lv_room (Nat.le_of_ble_eq_true rfl)) dX10_tokenOf_27 ⟨Nat.le_of_ble_eq_true rfl, Nat.le_of_ble_eq_true rfl⟩) hS (fun q _ h => fA_le hS.1 q h) (fA_le hS.1) (fun r9 u9 t9 H1 locs ht9 hvm9 hw9 hB9 hz9 hk9 hS => ?_)
    obtain ⟨μ17, r18⟩ := u9
    obtain ⟨hP, -⟩ := hB9
    rw [ht9] at hP
    generalize H1 = H at hP hS ⊢
    obtain ⟨e9, hw9⟩ := hw9
    have e9 : r9 = iZ r18 := e9
    subst e9
    simp only at hP hw9
    have hμ17 := hw9; clear hw9
    have hfr := fr_trans hfr (badP_fr hμ17)
    have hrb := badP_r hμ17
    obtain rfl : r18 = 1 := by omega
    refine fz_if_ne (tgt := 57) (by decide) hx hb dX10_tokenOf_30 (by decide) (fun c30_ => ?_) (fun h9 => absurd h9 (by decide))
    refine lv_iconst (v := iZ 0) hx hb dX10_tokenOf_57 rfl ?_
    exact W.iret (v := iZ (0)) hx hb hr (fun t9 ht9 hW9 => ⟨⟨iZ (0), (μ17, 0), rfl, ⟨rfl, (by
                dsimp only
                exact ⟨hfr, by omega⟩)⟩, by rw [ht9]; exact hP, va_K.moved hW9.alike hK⟩, hS.F ht9⟩) hS.2.2 dX10_tokenOf_58
set_option maxHeartbeats 4000000 in
set_option maxRecDepth 100000 in
theorem m_of (l : Launch) (dC : Nat → ClassId) (dI : Nat → Nat → Nat) (cI cZ cII cIII : ClassId) (h0 sz : Nat) (μ : va_M) (t : Int) (i : Int) (w : Int) (ht : 0 ≤ t ∧ t < 70) (hi9 : 0 ≤ i ∧ i < μ 719 t.toNat) (hx9 : ∃ w : Rw, TR μ t.toNat w ∧ rWF w ∧ rN w ≤ 900) (hw9 : inR w) : Met l yX10_of (Cond.code yX10_of cX10_of 4 (some .int) :: wsG) ({ frames := 2, cells := 0, slots := 0, locals := 39 } : Room) (va_Pc [.ref h0, .int (iZ (t)), .int (iZ (i)), .int (iZ (w))] (fun U => U.heap.size = sz ∧ va_P (dC, dI) vwCl (fw (mE cI cZ cII cIII h0) h0 6325 μ) U.heap ∧ va_K (dC, dI) vwCl (mT cI cZ cII cIII) U)) (va_Qi (fun (r9 : Int32) (u : va_M × Int) => r9 = iZ u.2 ∧ (fun (u : va_M) (r : Int) => u = μ) u.1 u.2) (fun u t => va_P (dC, dI) vwCl (fw (mE cI cZ cII cIII h0) h0 6325 u.1) t.heap ∧ va_K (dC, dI) vwCl (mT cI cZ cII cIII) t) (fA h0 6325 sz)) 0 0 (fA h0 6325 sz) := by
  refine Met.ofW (cc := cX10_of) (maxL := 4) (ret := (some .int)) (by decide) rfl ?_
  intro p e s m args below meth c s₁ B hml hv
  obtain ⟨rfl, hsz, hP, hK⟩ := hv
  have hx := B.exec
  have hb := B.bytes
  have hr := B.returns
  have hts : ∀ w ∈ wsG, w.before _ s = true := hG_of (atoms_spec (ws := (Cond.code yX10_of cX10_of 4 (some .int) :: wsG)) B.pre)
  have hown : s.vm.findClass RX10 = some m.cls := findClass_of_methodNamed B.named
  have hlocks := B.notSynchronized
  subst hsz
  have hS : va_S (fA h0 6325 s.heap.size) s.heap s.heap [] := va_S.rf
  have hl := lv_entry ([.ref h0, .int (iZ (t)), .int (iZ (i)), .int (iZ (w))]) (n := 4) (Nat.le_of_ble_eq_true rfl)
  rw [lg_entry_eq]
  generalize (lg_sl ([.ref h0, .int (iZ (t)), .int (iZ (i)), .int (iZ (w))]) ++ List.replicate (4 - (lg_sl ([.ref h0, .int (iZ (t)), .int (iZ (i)), .int (iZ (w))])).length) Slot.unset).toArray = ls at hl ⊢
  have hl : lv_has ls 4 [(0, .ref h0), (1, .int (iZ (t))), (2, .int (iZ (i))), (3, .int (iZ (w)))] := hl
  obtain ⟨w9, hT, hW, hN⟩ := hx9
  have htk := TR_tok hT hW hN
  have hn0 := hT.1
  obtain ⟨kx, vx, wx, hA, hF, hZ, hHx, hIx⟩ := RA_at w9 0 hT.2 hW i.toNat (by omega) (by omega)
  have hc := htk.2.2 i.toNat (by omega)
  obtain ⟨hc1, hc2, hc3, hc4⟩ := hc
  refine lv_iload_n hx hb dX10_of_0 rfl (lv_at hl 3 rfl) ?_
  by_cases hc1_0 : w = 0
  · refine lv_tableIn (tgt := 36) (off := 35) hx hb dX10_of_1 (by rw [iZ_toInt (by exact hw9), hc1_0]; decide +kernel) (by rw [iZ_toInt (by exact hw9), hc1_0]; decide +kernel) (by rw [iZ_toInt (by exact hw9), hc1_0]; decide +kernel) (by decide) ?_
    refine lv_aload_n hx hb dX10_of_36 rfl (lv_at hl 0 rfl) ?_
    refine fz_get (D := (dC, dI)) (ci := 10) (v := .ref (h0 + 506)) (C := RX10) (T := TX10) (N := 53) hx hb hts inG10 hown hK hP (k := 0) (by decide) (F := mF h0) mE_obj rfl 18 (by decide) (hts _ k1184) (fun _ h9 => h9) rfl dX10_of_37 ?_
    refine lv_iload_n hx hb dX10_of_40 rfl (lv_at hl 1 rfl) ?_
    refine fz_ald (k := 506) (n := 70) (k2 := (507 + (t).toNat)) hx hb hK hP 2 rfl (by decide) mE_sort rfl ⟨by omega, by omega⟩ (by decide) (if_pos (by omega)) dX10_of_41 ?_
    refine lv_iload_n hx hb dX10_of_42 rfl (lv_at hl 2 rfl) ?_
    refine fz_ld (k := (507 + (t).toNat)) (n := 900) hx hb hK hP 0 (by omega) (mE_sortR (by omega)) rfl ⟨by omega, by omega⟩ (by decide) dX10_of_43 ?_
    exact W.iret (v := iZ (μ (507 + (t).toNat) (i).toNat)) hx hb hr (fun t9 ht9 hW9 => ⟨⟨iZ (μ (507 + (t).toNat) (i).toNat), (μ, μ (507 + (t).toNat) (i).toNat), rfl, ⟨rfl, (by
                dsimp only
                first | done | rfl)⟩, by rw [ht9]; exact hP, va_K.moved hW9.alike hK⟩, hS.F ht9⟩) hS.2.2 dX10_of_44
  · skip
    by_cases hc1_1 : w = 1
    · refine lv_tableIn (tgt := 45) (off := 44) hx hb dX10_of_1 (by rw [iZ_toInt (by exact hw9), hc1_1]; decide +kernel) (by rw [iZ_toInt (by exact hw9), hc1_1]; decide +kernel) (by rw [iZ_toInt (by exact hw9), hc1_1]; decide +kernel) (by decide) ?_
      refine lv_aload_n hx hb dX10_of_45 rfl (lv_at hl 0 rfl) ?_
      refine fz_get (D := (dC, dI)) (ci := 10) (v := .ref (h0 + 506)) (C := RX10) (T := TX10) (N := 53) hx hb hts inG10 hown hK hP (k := 0) (by decide) (F := mF h0) mE_obj rfl 18 (by decide) (hts _ k1184) (fun _ h9 => h9) rfl dX10_of_46 ?_
      refine lv_iload_n hx hb dX10_of_49 rfl (lv_at hl 1 rfl) ?_
      refine fz_ald (k := 506) (n := 70) (k2 := (507 + (t).toNat)) hx hb hK hP 2 rfl (by decide) mE_sort rfl ⟨by omega, by omega⟩ (by decide) (if_pos (by omega)) dX10_of_50 ?_
      refine lv_iload_n hx hb dX10_of_51 rfl (lv_at hl 2 rfl) ?_
      refine fz_ld (k := (507 + (t).toNat)) (n := 900) hx hb hK hP 0 (by omega) (mE_sortR (by omega)) rfl ⟨by omega, by omega⟩ (by decide) dX10_of_52 ?_
      refine lv_iconst (v := iZ 2) hx hb dX10_of_53 rfl ?_
      refine fz_icmp_ge (tgt := 68) (by constructor <;> omega) (by decide) hx hb dX10_of_54 (by decide) (fun c54_ => ?_) (fun c54_ => ?_)
      · refine lv_iconst (v := iZ (-1)) hx hb dX10_of_68 rfl ?_
        exact W.iret (v := iZ ((-1))) hx hb hr (fun t9 ht9 hW9 => ⟨⟨iZ ((-1)), (μ, (-1)), rfl, ⟨rfl, (by
                        dsimp only
                        first | done | rfl)⟩, by rw [ht9]; exact hP, va_K.moved hW9.alike hK⟩, hS.F ht9⟩) hS.2.2 dX10_of_69
      · refine lv_aload_n hx hb dX10_of_57 rfl (lv_at hl 0 rfl) ?_
        refine fz_get (D := (dC, dI)) (ci := 10) (v := .ref (h0 + 577)) (C := RX10) (T := TX10) (N := 53) hx hb hts inG10 hown hK hP (k := 0) (by decide) (F := mF h0) mE_obj rfl 19 (by decide) (hts _ k1185) (fun _ h9 => h9) rfl dX10_of_58 ?_
        refine lv_iload_n hx hb dX10_of_61 rfl (lv_at hl 1 rfl) ?_
        refine fz_ald (k := 577) (n := 70) (k2 := (578 + (t).toNat)) hx hb hK hP 2 rfl (by decide) mE_token rfl ⟨by omega, by omega⟩ (by decide) (if_pos (by omega)) dX10_of_62 ?_
        refine lv_iload_n hx hb dX10_of_63 rfl (lv_at hl 2 rfl) ?_
        refine fz_ld (k := (578 + (t).toNat)) (n := 900) hx hb hK hP 0 (by omega) (mE_tokenR (by omega)) rfl ⟨by omega, by omega⟩ (by decide) dX10_of_64 ?_
        refine lv_goto (tgt := 69) hx hb dX10_of_65 (by decide) ?_
        exact W.iret (v := iZ (μ (578 + (t).toNat) (i).toNat)) hx hb hr (fun t9 ht9 hW9 => ⟨⟨iZ (μ (578 + (t).toNat) (i).toNat), (μ, μ (578 + (t).toNat) (i).toNat), rfl, ⟨rfl, (by
                        dsimp only
                        first | done | rfl)⟩, by rw [ht9]; exact hP, va_K.moved hW9.alike hK⟩, hS.F ht9⟩) hS.2.2 dX10_of_69
    · skip
      by_cases hc1_2 : w = 2
      · refine lv_tableIn (tgt := 70) (off := 69) hx hb dX10_of_1 (by rw [iZ_toInt (by exact hw9), hc1_2]; decide +kernel) (by rw [iZ_toInt (by exact hw9), hc1_2]; decide +kernel) (by rw [iZ_toInt (by exact hw9), hc1_2]; decide +kernel) (by decide) ?_
        refine lv_aload_n hx hb dX10_of_70 rfl (lv_at hl 0 rfl) ?_
        refine lv_iload_n hx hb dX10_of_71 rfl (lv_at hl 1 rfl) ?_
        refine lv_iload_n hx hb dX10_of_72 rfl (lv_at hl 2 rfl) ?_
        refine lv_iconst (v := iZ (-1)) hx hb dX10_of_73 rfl ?_
        refine va_calli (va_runV (As := [.int (iZ (t)), .int (iZ (i)), .int (iZ ((-1)))]) (rest := []) ⟨hx, hb, hml, hown, hts⟩ (m_depthOf l dC dI cI cZ cII cIII h0 s.heap.size μ (t) (i) ((-1)) (by first | assumption | omega | exact ⟨by omega, by omega⟩) (by exact htk) (by first | assumption | omega | exact ⟨by omega, by omega⟩) (by constructor <;> decide)) (cwV 3 hts (gV_G k1592 k1594 ks_yX10_depthOf k13 k1595) rfl rfl rfl (by decide +kernel) ⟨Nat.le_of_ble_eq_true rfl, Nat.le_of_ble_eq_true rfl⟩) ⟨fun a U g mk q => by obtain ⟨q0, q1, qP, qK⟩ := q; exact ⟨q0, q1, qP, va_K.moved (u := U) (U := U.calling g mk a) (Vm.Alike.refl U.vm) qK⟩, va_recv hK hP (ci := 10) (q0 := 0) rfl ((fw_get (by decide)).trans (by rw [mE_obj]; rfl)), fun U hU hW => ⟨rfl, by rw [hU], by rw [hU]; exact hP, va_K.moved hW.alike hK⟩⟩ rfl rfl hl.1 rfl (lv_room (Nat.le_of_ble_eq_true rfl)) dX10_of_74 ⟨Nat.le_of_ble_eq_true rfl, Nat.le_of_ble_eq_true rfl⟩) hS (fun q _ h => fA_le hS.1 q h) (fA_le hS.1) (fun r9 u9 t9 H1 locs ht9 hvm9 hw9 hB9 hz9 hk9 hS => ?_)
        obtain ⟨μ1, r2⟩ := u9
        obtain ⟨hP, -⟩ := hB9
        rw [ht9] at hP
        generalize H1 = H at hP hS ⊢
        obtain ⟨e9, hw9⟩ := hw9
        have e9 : r9 = iZ r2 := e9
        subst e9
        simp only at hP hw9
        have hμ1 := hw9; clear hw9
        rw [hμ1.1] at hP; have hμ1 := hμ1.2
        exact W.iret (v := iZ (r2)) hx hb hr (fun t9 ht9 hW9 => ⟨⟨iZ (r2), (μ, r2), rfl, ⟨rfl, (by
                        dsimp only
                        first | done | rfl)⟩, by rw [ht9]; exact hP, va_K.moved hW9.alike hK⟩, hS.F ht9⟩) hS.2.2 dX10_of_77
      · skip
        by_cases hc1_3 : w = 3
        · refine lv_tableIn (tgt := 78) (off := 77) hx hb dX10_of_1 (by rw [iZ_toInt (by exact hw9), hc1_3]; decide +kernel) (by rw [iZ_toInt (by exact hw9), hc1_3]; decide +kernel) (by rw [iZ_toInt (by exact hw9), hc1_3]; decide +kernel) (by decide) ?_
          refine lv_aload_n hx hb dX10_of_78 rfl (lv_at hl 0 rfl) ?_
          refine lv_iload_n hx hb dX10_of_79 rfl (lv_at hl 1 rfl) ?_
          refine lv_iload_n hx hb dX10_of_80 rfl (lv_at hl 2 rfl) ?_
          refine va_calli (va_runV (As := [.int (iZ (t)), .int (iZ (i))]) (rest := []) ⟨hx, hb, hml, hown, hts⟩ (m_parentOf l dC dI cI cZ cII cIII h0 s.heap.size μ (t) (i) (by first | assumption | omega | exact ⟨by omega, by omega⟩) (by exact htk) (by first | assumption | omega | exact ⟨by omega, by omega⟩)) (cwV 2 hts (gV_G k1627 k1629 ks_yX10_parentOf k13 k1630) rfl rfl rfl (by decide +kernel) ⟨Nat.le_of_ble_eq_true rfl, Nat.le_of_ble_eq_true rfl⟩) ⟨fun a U g mk q => by obtain ⟨q0, q1, qP, qK⟩ := q; exact ⟨q0, q1, qP, va_K.moved (u := U) (U := U.calling g mk a) (Vm.Alike.refl U.vm) qK⟩, va_recv hK hP (ci := 10) (q0 := 0) rfl ((fw_get (by decide)).trans (by rw [mE_obj]; rfl)), fun U hU hW => ⟨rfl, by rw [hU], by rw [hU]; exact hP, va_K.moved hW.alike hK⟩⟩ rfl rfl hl.1 rfl (lv_room (Nat.le_of_ble_eq_true rfl)) dX10_of_81 ⟨Nat.le_of_ble_eq_true rfl, Nat.le_of_ble_eq_true rfl⟩) hS (fun q _ h => fA_le hS.1 q h) (fA_le hS.1) (fun r9 u9 t9 H1 locs ht9 hvm9 hw9 hB9 hz9 hk9 hS => ?_)
          obtain ⟨μ3, r4⟩ := u9
          obtain ⟨hP, -⟩ := hB9
          rw [ht9] at hP
          generalize H1 = H at hP hS ⊢
          obtain ⟨e9, hw9⟩ := hw9
          have e9 : r9 = iZ r4 := e9
          subst e9
          simp only at hP hw9
          have hμ3 := hw9; clear hw9
          rw [hμ3.1] at hP; have hμ3 := hμ3.2
          exact W.iret (v := iZ (r4)) hx hb hr (fun t9 ht9 hW9 => ⟨⟨iZ (r4), (μ, r4), rfl, ⟨rfl, (by
                            dsimp only
                            first | done | rfl)⟩, by rw [ht9]; exact hP, va_K.moved hW9.alike hK⟩, hS.F ht9⟩) hS.2.2 dX10_of_84
        · skip
          by_cases hc1_4 : w = 4
          · refine lv_tableIn (tgt := 85) (off := 84) hx hb dX10_of_1 (by rw [iZ_toInt (by exact hw9), hc1_4]; decide +kernel) (by rw [iZ_toInt (by exact hw9), hc1_4]; decide +kernel) (by rw [iZ_toInt (by exact hw9), hc1_4]; decide +kernel) (by decide) ?_
            refine lv_aload_n hx hb dX10_of_85 rfl (lv_at hl 0 rfl) ?_
            refine lv_iload_n hx hb dX10_of_86 rfl (lv_at hl 1 rfl) ?_
            refine lv_iload_n hx hb dX10_of_87 rfl (lv_at hl 2 rfl) ?_
            refine lv_iload_n hx hb dX10_of_88 rfl (lv_at hl 2 rfl) ?_
            refine lv_aload_n hx hb dX10_of_89 rfl (lv_at hl 0 rfl) ?_
            refine fz_get (D := (dC, dI)) (ci := 10) (v := .ref (h0 + 648)) (C := RX10) (T := TX10) (N := 53) hx hb hts inG10 hown hK hP (k := 0) (by decide) (F := mF h0) mE_obj rfl 20 (by decide) (hts _ k1186) (fun _ h9 => h9) rfl dX10_of_90 ?_
            refine lv_iload_n hx hb dX10_of_93 rfl (lv_at hl 1 rfl) ?_
            refine fz_ald (k := 648) (n := 70) (k2 := (649 + (t).toNat)) hx hb hK hP 2 rfl (by decide) mE_span rfl ⟨by omega, by omega⟩ (by decide) (if_pos (by omega)) dX10_of_94 ?_
            refine lv_iload_n hx hb dX10_of_95 rfl (lv_at hl 2 rfl) ?_
            refine fz_ld (k := (649 + (t).toNat)) (n := 900) hx hb hK hP 0 (by omega) (mE_spanR (by omega)) rfl ⟨by omega, by omega⟩ (by decide) dX10_of_96 ?_
            refine lv_iadd hx hb dX10_of_97 ?_
            refine lv_topi (fun x9 ex9 => ?_)
            obtain rfl : x9 = iZ (i + (μ (649 + (t).toNat) (i).toNat)) := ex9.trans (iZ_add _ _)
            refine va_calli (va_runV (As := [.int (iZ (t)), .int (iZ (i)), .int (iZ (i + (μ (649 + (t).toNat) (i).toNat)))]) (rest := []) ⟨hx, hb, hml, hown, hts⟩ (m_sizeOf2 l dC dI cI cZ cII cIII h0 s.heap.size μ (t) (i) (i + (μ (649 + (t).toNat) (i).toNat)) (by first | assumption | omega | exact ⟨by omega, by omega⟩) (by omega) (by omega) (by intro x _ hx; have h9 := (htk.2.2 x (by omega)).1; constructor <;> omega)) (cwV 3 hts (gV_G k1488 k1490 ks_yX10_sizeOf k13 k1491) rfl rfl rfl (by decide +kernel) ⟨Nat.le_of_ble_eq_true rfl, Nat.le_of_ble_eq_true rfl⟩) ⟨fun a U g mk q => by obtain ⟨q0, q1, qP, qK⟩ := q; exact ⟨q0, q1, qP, va_K.moved (u := U) (U := U.calling g mk a) (Vm.Alike.refl U.vm) qK⟩, va_recv hK hP (ci := 10) (q0 := 0) rfl ((fw_get (by decide)).trans (by rw [mE_obj]; rfl)), fun U hU hW => ⟨rfl, by rw [hU], by rw [hU]; exact hP, va_K.moved hW.alike hK⟩⟩ rfl rfl hl.1 rfl (lv_room (Nat.le_of_ble_eq_true rfl)) dX10_of_98 ⟨Nat.le_of_ble_eq_true rfl, Nat.le_of_ble_eq_true rfl⟩) hS (fun q _ h => fA_le hS.1 q h) (fA_le hS.1) (fun r9 u9 t9 H1 locs ht9 hvm9 hw9 hB9 hz9 hk9 hS => ?_)
            obtain ⟨μ5, r6⟩ := u9
            obtain ⟨hP, -⟩ := hB9
            rw [ht9] at hP
            generalize H1 = H at hP hS ⊢
            obtain ⟨e9, hw9⟩ := hw9
            have e9 : r9 = iZ r6 := e9
            subst e9
            simp only at hP hw9
            have hμ5 := hw9; clear hw9
            rw [hμ5.1] at hP; have hμ5 := hμ5.2
            exact W.iret (v := iZ (r6)) hx hb hr (fun t9 ht9 hW9 => ⟨⟨iZ (r6), (μ, r6), rfl, ⟨rfl, (by
                                dsimp only
                                first | done | rfl)⟩, by rw [ht9]; exact hP, va_K.moved hW9.alike hK⟩, hS.F ht9⟩) hS.2.2 dX10_of_101
          · skip
            refine lv_tableOut (tgt := 102) hx hb dX10_of_1 (by rw [iZ_toInt (by exact hw9)]; omega) (by decide) ?_
            refine lv_aload_n hx hb dX10_of_102 rfl (lv_at hl 0 rfl) ?_
            refine lv_iload_n hx hb dX10_of_103 rfl (lv_at hl 1 rfl) ?_
            refine lv_iload_n hx hb dX10_of_104 rfl (lv_at hl 2 rfl) ?_
            refine va_calli (va_runV (As := [.int (iZ (t)), .int (iZ (i))]) (rest := []) ⟨hx, hb, hml, hown, hts⟩ (m_itemsIn l dC dI cI cZ cII cIII h0 s.heap.size μ (t) (i) (wx) (by first | assumption | omega | exact ⟨by omega, by omega⟩) (by omega) (by exact hA.2.2.1) (by exact hA.2.2.2)) (cwV 2 hts (gV_G k1400 k1402 ks_yX10_itemsIn k13 k1403) rfl rfl rfl (by decide +kernel) ⟨Nat.le_of_ble_eq_true rfl, Nat.le_of_ble_eq_true rfl⟩) ⟨fun a U g mk q => by obtain ⟨q0, q1, qP, qK⟩ := q; exact ⟨q0, q1, qP, va_K.moved (u := U) (U := U.calling g mk a) (Vm.Alike.refl U.vm) qK⟩, va_recv hK hP (ci := 10) (q0 := 0) rfl ((fw_get (by decide)).trans (by rw [mE_obj]; rfl)), fun U hU hW => ⟨rfl, by rw [hU], by rw [hU]; exact hP, va_K.moved hW.alike hK⟩⟩ rfl rfl hl.1 rfl (lv_room (Nat.le_of_ble_eq_true rfl)) dX10_of_105 ⟨Nat.le_of_ble_eq_true rfl, Nat.le_of_ble_eq_true rfl⟩) hS (fun q _ h => fA_le hS.1 q h) (fA_le hS.1) (fun r9 u9 t9 H1 locs ht9 hvm9 hw9 hB9 hz9 hk9 hS => ?_)
            obtain ⟨μ7, r8⟩ := u9
            obtain ⟨hP, -⟩ := hB9
            rw [ht9] at hP
            generalize H1 = H at hP hS ⊢
            obtain ⟨e9, hw9⟩ := hw9
            have e9 : r9 = iZ r8 := e9
            subst e9
            simp only at hP hw9
            have hμ7 := hw9; clear hw9
            rw [hμ7.1] at hP; have hμ7 := hμ7.2
            exact W.iret (v := iZ (r8)) hx hb hr (fun t9 ht9 hW9 => ⟨⟨iZ (r8), (μ, r8), rfl, ⟨rfl, (by
                                dsimp only
                                first | done | rfl)⟩, by rw [ht9]; exact hP, va_K.moved hW9.alike hK⟩, hS.F ht9⟩) hS.2.2 dX10_of_108
set_option maxHeartbeats 4000000 in
set_option maxRecDepth 100000 in
theorem m_node (l : Launch) (dC : Nat → ClassId) (dI : Nat → Nat → Nat) (cI cZ cII cIII : ClassId) (h0 sz : Nat) (μ : va_M) (i : Int) (w : Int) (hQ : RQ μ) (hi9 : inR i) (hw9 : inR w) : Met l yX10_node (Cond.code yX10_node cX10_node 3 (some .int) :: wsG) ({ frames := 3, cells := 0, slots := 0, locals := 62 } : Room) (va_Pc [.ref h0, .int (iZ (i)), .int (iZ (w))] (fun U => U.heap.size = sz ∧ va_P (dC, dI) vwCl (fw (mE cI cZ cII cIII h0) h0 6325 μ) U.heap ∧ va_K (dC, dI) vwCl (mT cI cZ cII cIII) U)) (va_Qi (fun (r9 : Int32) (u : va_M × Int) => r9 = iZ u.2 ∧ (fun (u : va_M) (r : Int) => fr PS μ u ∧ (u 0 0 = 0 ∨ u 0 0 = 1 ∨ u 0 0 = 2)) u.1 u.2) (fun u t => va_P (dC, dI) vwCl (fw (mE cI cZ cII cIII h0) h0 6325 u.1) t.heap ∧ va_K (dC, dI) vwCl (mT cI cZ cII cIII) t) (fA h0 6325 sz)) 0 0 (fA h0 6325 sz) := by
  refine Met.ofW (cc := cX10_node) (maxL := 3) (ret := (some .int)) (by decide) rfl ?_
  intro p e s m args below meth c s₁ B hml hv
  obtain ⟨rfl, hsz, hP, hK⟩ := hv
  have hx := B.exec
  have hb := B.bytes
  have hr := B.returns
  have hts : ∀ w ∈ wsG, w.before _ s = true := hG_of (atoms_spec (ws := (Cond.code yX10_node cX10_node 3 (some .int) :: wsG)) B.pre)
  have hown : s.vm.findClass RX10 = some m.cls := findClass_of_methodNamed B.named
  have hlocks := B.notSynchronized
  subst hsz
  have hS : va_S (fA h0 6325 s.heap.size) s.heap s.heap [] := va_S.rf
  have hl := lv_entry ([.ref h0, .int (iZ (i)), .int (iZ (w))]) (n := 3) (Nat.le_of_ble_eq_true rfl)
  rw [lg_entry_eq]
  generalize (lg_sl ([.ref h0, .int (iZ (i)), .int (iZ (w))]) ++ List.replicate (3 - (lg_sl ([.ref h0, .int (iZ (i)), .int (iZ (w))])).length) Slot.unset).toArray = ls at hl ⊢
  have hl : lv_has ls 3 [(0, .ref h0), (1, .int (iZ (i))), (2, .int (iZ (w)))] := hl
  refine lv_aload_n hx hb dX10_node_0 rfl (lv_at hl 0 rfl) ?_
  refine lv_iconst (v := iZ 0) hx hb dX10_node_1 rfl ?_
  refine fz_put (D := (dC, dI)) (ci := 10) (ty := .int) (z := 0) (C := RX10) (T := TX10) (N := 53) hx hb hts inG10 tyX10 tyX10_ok nmX10 hown hK hP fA_in hS (k := 0) (by decide) (F := mF h0) mE_obj rfl 0 (by decide) (hts _ k1166) (fun _ h9 => h9) rfl (by decide +kernel) rfl rfl (fun _ => Nat.le_of_ble_eq_true rfl) (fun _ _ => rfl) dX10_node_2 (fun H locs hP hS => ?_)
  obtain ⟨μ1, eμ1⟩ : ∃ x : va_M, x = uz μ 0 0 (0) := ⟨_, rfl⟩
  rw [← eμ1] at hP
  have hfr : fr PS μ μ1 := by rw [eμ1]; exact fr_uz fr_rfl (by unfold PS; omega)
  have ht0 : μ1 0 0 = 0 := by rw [eμ1, uz_s]
  have e10 := hfr 0 10 (PS_n (by omega))
  have e9 := hfr 0 9 (PS_n (by omega))
  have e71 := hfr 719 0 (PS_n (by omega))
  have hQ1 := RQ_fr hQ hfr
  have hQc := hQ
  obtain ⟨f10, ⟨fT, fTb, fTw⟩, fS3, fPg, fw9, fwB, fwT⟩ := hQc
  obtain ⟨g10, ⟨gT, gTb, gTw⟩, gS3, gPg, gw, gwB, gwT⟩ := hQ1
  have gtk := TR_tok gwT gwB.1 gwB.2.1
  have gt1 := gtk.1
  have gt2 := gtk.2.1
  refine lv_aload_n hx hb dX10_node_5 rfl (lv_at hl 0 rfl) ?_
  refine lv_aload_n hx hb dX10_node_6 rfl (lv_at hl 0 rfl) ?_
  refine lv_iload_n hx hb dX10_node_7 rfl (lv_at hl 1 rfl) ?_
  refine va_calli (va_runV (As := [.int (iZ (i))]) (rest := [.ref h0]) ⟨hx, hb, hml, hown, hts⟩ (m_isNode l dC dI cI cZ cII cIII h0 H.size μ1 (i) (by first | assumption | omega | exact ⟨by omega, by omega⟩) (by first | assumption | omega | exact ⟨by omega, by omega⟩)) (cwV 1 hts (gV_G k1619 k1621 ks_yX10_isNode k13 k1622) rfl rfl rfl (by decide +kernel) ⟨Nat.le_of_ble_eq_true rfl, Nat.le_of_ble_eq_true rfl⟩) ⟨fun a U g mk q => by obtain ⟨q0, q1, qP, qK⟩ := q; exact ⟨q0, q1, qP, va_K.moved (u := U) (U := U.calling g mk a) (Vm.Alike.refl U.vm) qK⟩, va_recv hK hP (ci := 10) (q0 := 0) rfl ((fw_get (by decide)).trans (by rw [mE_obj]; rfl)), fun U hU hW => ⟨rfl, by rw [hU], by rw [hU]; exact hP, va_K.moved hW.alike hK⟩⟩ rfl rfl hl.1 rfl (lv_room (Nat.le_of_ble_eq_true rfl)) dX10_node_8 ⟨Nat.le_of_ble_eq_true rfl, Nat.le_of_ble_eq_true rfl⟩) hS (fun q _ h => fA_le hS.1 q h) (fA_le hS.1) (fun r9 u9 t9 H1 locs ht9 hvm9 hw9 hB9 hz9 hk9 hS => ?_)
  obtain ⟨μ2, r3⟩ := u9
  obtain ⟨hP, -⟩ := hB9
  rw [ht9] at hP
  generalize H1 = H at hP hS ⊢
  obtain ⟨e9, hw9⟩ := hw9
  have e9 : r9 = iZ r3 := e9
  subst e9
  simp only at hP hw9
  have hμ2 := hw9; clear hw9
  rw [hμ2.1] at hP; have hμ2 := hμ2.2
  have hin := hμ2
  have hin2 := if_01 hμ2
  refine fz_if_ne (tgt := 18) (by constructor <;> omega) hx hb dX10_node_11 (by decide) (fun c11_ => ?_) (fun c11_ => ?_)
  · have hkk := if_get hin (by omega)
    refine lv_iconst (v := iZ 0) hx hb dX10_node_18 rfl ?_
    refine lv_iconst (v := iZ 1) hx hb dX10_node_19 rfl ?_
    refine lv_iconst (v := iZ 0) hx hb dX10_node_20 rfl ?_
    refine va_calli (va_runV (As := [.int (iZ (0)), .int (iZ (1)), .int (iZ (0))]) (rest := []) ⟨hx, hb, hml, hown, hts⟩ (m_bad2 l dC dI cI cZ cII cIII h0 H.size μ1 (0) (1) (0) (by first | assumption | omega | exact ⟨by omega, by omega⟩) (by first | assumption | omega | exact ⟨by omega, by omega⟩) (by first | assumption | omega | exact ⟨by omega, by omega⟩) (by first | assumption | omega | exact ⟨by omega, by omega⟩)) (cwV 3 hts (gV_G k1338 k1340 ks_yX10_bad k13 k1341) rfl rfl rfl (by decide +kernel) ⟨Nat.le_of_ble_eq_true rfl, Nat.le_of_ble_eq_true rfl⟩) ⟨fun a U g mk q => by obtain ⟨q0, q1, qP, qK⟩ := q; exact ⟨q0, q1, qP, va_K.moved (u := U) (U := U.calling g mk a) (Vm.Alike.refl U.vm) qK⟩, va_recv hK hP (ci := 10) (q0 := 0) rfl ((fw_get (by decide)).trans (by rw [mE_obj]; rfl)), fun U hU hW => ⟨rfl, by rw [hU], by rw [hU]; exact hP, va_K.moved hW.alike hK⟩⟩ rfl rfl hl.1 rfl (lv_room (Nat.le_of_ble_eq_true rfl)) dX10_node_21 ⟨Nat.le_of_ble_eq_true rfl, Nat.le_of_ble_eq_true rfl⟩) hS (fun q _ h => fA_le hS.1 q h) (fA_le hS.1) (fun r9 u9 t9 H1 locs ht9 hvm9 hw9 hB9 hz9 hk9 hS => ?_)
    obtain ⟨μ4, r5⟩ := u9
    obtain ⟨hP, -⟩ := hB9
    rw [ht9] at hP
    generalize H1 = H at hP hS ⊢
    obtain ⟨e9, hw9⟩ := hw9
    have e9 : r9 = iZ r5 := e9
    subst e9
    simp only at hP hw9
    have hμ4 := hw9; clear hw9
    have hfr := fr_trans hfr (badP_fr hμ4)
    have hrb := badP_r hμ4
    obtain rfl : r5 = 0 := by omega
    refine fz_if_ne (tgt := 50) (by decide) hx hb dX10_node_24 (by decide) (fun h9 => absurd h9 (by decide)) (fun c24_ => ?_)
    refine lv_aload_n hx hb dX10_node_27 rfl (lv_at hl 0 rfl) ?_
    refine lv_iload_n hx hb dX10_node_28 rfl (lv_at hl 2 rfl) ?_
    refine lv_iconst (v := iZ 0) hx hb dX10_node_29 rfl ?_
    refine lv_iconst (v := iZ 5) hx hb dX10_node_30 rfl ?_
    refine va_calli (va_runS (As := [.int (iZ (w)), .int (iZ (0)), .int (iZ (5))]) (rest := [.ref h0]) ⟨hx, hb, hml, hown, hts⟩ (m_in l dC dI cI cZ cII cIII h0 H.size μ4 (w) (0) (5) (by first | assumption | omega | exact ⟨by omega, by omega⟩) (by first | assumption | omega | exact ⟨by omega, by omega⟩) (by first | assumption | omega | exact ⟨by omega, by omega⟩)) (cwS 3 hts (gS_G k1335 k1336 k13 k1337) rfl rfl rfl (by decide +kernel) ⟨Nat.le_of_ble_eq_true rfl, Nat.le_of_ble_eq_true rfl⟩) ⟨fun a U g mk q => by obtain ⟨q0, q1, qP, qK⟩ := q; exact ⟨q0, q1, qP, va_K.moved (u := U) (U := U.calling g mk a) (Vm.Alike.refl U.vm) qK⟩, fun U hU hW => ⟨rfl, by rw [hU], by rw [hU]; exact hP, va_K.moved hW.alike hK⟩⟩ rfl rfl hl.1 rfl (lv_room (Nat.le_of_ble_eq_true rfl)) dX10_node_31 ⟨Nat.le_of_ble_eq_true rfl, Nat.le_of_ble_eq_true rfl⟩) hS (fun q _ h => fA_le hS.1 q h) (fA_le hS.1) (fun r9 u9 t9 H1 locs ht9 hvm9 hw9 hB9 hz9 hk9 hS => ?_)
    obtain ⟨μ6, r7⟩ := u9
    obtain ⟨hP, -⟩ := hB9
    rw [ht9] at hP
    generalize H1 = H at hP hS ⊢
    obtain ⟨e9, hw9⟩ := hw9
    have e9 : r9 = iZ r7 := e9
    subst e9
    simp only at hP hw9
    have hμ6 := hw9; clear hw9
    rw [hμ6.1] at hP; have hμ6 := hμ6.2
    have hin := hμ6
    have hin2 := if_01 hμ6
    refine fz_if_ne (tgt := 41) (by constructor <;> omega) hx hb dX10_node_34 (by decide) (fun c34_ => ?_) (fun c34_ => ?_)
    · refine lv_iconst (v := iZ 0) hx hb dX10_node_41 rfl ?_
      refine lv_iconst (v := iZ 2) hx hb dX10_node_42 rfl ?_
      refine lv_iconst (v := iZ 1) hx hb dX10_node_43 rfl ?_
      refine va_calli (va_runV (As := [.int (iZ (0)), .int (iZ (2)), .int (iZ (1))]) (rest := []) ⟨hx, hb, hml, hown, hts⟩ (m_bad2 l dC dI cI cZ cII cIII h0 H.size μ4 (0) (2) (1) (by first | assumption | omega | exact ⟨by omega, by omega⟩) (by first | assumption | omega | exact ⟨by omega, by omega⟩) (by first | assumption | omega | exact ⟨by omega, by omega⟩) (by first | assumption | omega | exact ⟨by omega, by omega⟩)) (cwV 3 hts (gV_G k1338 k1340 ks_yX10_bad k13 k1341) rfl rfl rfl (by decide +kernel) ⟨Nat.le_of_ble_eq_true rfl, Nat.le_of_ble_eq_true rfl⟩) ⟨fun a U g mk q => by obtain ⟨q0, q1, qP, qK⟩ := q; exact ⟨q0, q1, qP, va_K.moved (u := U) (U := U.calling g mk a) (Vm.Alike.refl U.vm) qK⟩, va_recv hK hP (ci := 10) (q0 := 0) rfl ((fw_get (by decide)).trans (by rw [mE_obj]; rfl)), fun U hU hW => ⟨rfl, by rw [hU], by rw [hU]; exact hP, va_K.moved hW.alike hK⟩⟩ rfl rfl hl.1 rfl (lv_room (Nat.le_of_ble_eq_true rfl)) dX10_node_44 ⟨Nat.le_of_ble_eq_true rfl, Nat.le_of_ble_eq_true rfl⟩) hS (fun q _ h => fA_le hS.1 q h) (fA_le hS.1) (fun r9 u9 t9 H1 locs ht9 hvm9 hw9 hB9 hz9 hk9 hS => ?_)
      obtain ⟨μ8, r10⟩ := u9
      obtain ⟨hP, -⟩ := hB9
      rw [ht9] at hP
      generalize H1 = H at hP hS ⊢
      obtain ⟨e9, hw9⟩ := hw9
      have e9 : r9 = iZ r10 := e9
      subst e9
      simp only at hP hw9
      have hμ8 := hw9; clear hw9
      have hfr := fr_trans hfr (badP_fr hμ8)
      have hrb := badP_r hμ8
      obtain rfl : r10 = 0 := by omega
      refine fz_if_eq (tgt := 52) (by decide) hx hb dX10_node_47 (by decide) (fun c47_ => ?_) (fun h9 => absurd h9 (by decide))
      have hQ2 := RQ_fr hQ hfr
      obtain ⟨k10, ⟨kT, kTb, kTw⟩, kS3, kPg, kw, kwB, kwT⟩ := hQ2
      have e10k := hfr 0 10 (PS_n (by omega))
      have e9k := hfr 0 9 (PS_n (by omega))
      have e71k := hfr 719 0 (PS_n (by omega))
      have ktk := TR_tok kwT kwB.1 kwB.2.1
      have kt1 := ktk.1
      have kt2 := ktk.2.1
      refine lv_aload_n hx hb dX10_node_52 rfl (lv_at hl 0 rfl) ?_
      refine lv_iconst (v := iZ 0) hx hb dX10_node_53 rfl ?_
      refine lv_iload_n hx hb dX10_node_54 rfl (lv_at hl 1 rfl) ?_
      refine lv_iload_n hx hb dX10_node_55 rfl (lv_at hl 2 rfl) ?_
      refine va_calli (va_runV (As := [.int (iZ (0)), .int (iZ (i)), .int (iZ (w))]) (rest := []) ⟨hx, hb, hml, hown, hts⟩ (m_of l dC dI cI cZ cII cIII h0 H.size μ8 (0) (i) (w) (by first | assumption | omega | exact ⟨by omega, by omega⟩) (by rw [show (0 : Int).toNat = 0 from rfl]; omega) (by exact ⟨kw, kwT, kwB.1, kwB.2.1⟩) (by first | assumption | omega | exact ⟨by omega, by omega⟩)) (cwV 3 hts (gV_G k1623 k1625 ks_yX10_of k13 k1626) rfl rfl rfl (by decide +kernel) ⟨Nat.le_of_ble_eq_true rfl, Nat.le_of_ble_eq_true rfl⟩) ⟨fun a U g mk q => by obtain ⟨q0, q1, qP, qK⟩ := q; exact ⟨q0, q1, qP, va_K.moved (u := U) (U := U.calling g mk a) (Vm.Alike.refl U.vm) qK⟩, va_recv hK hP (ci := 10) (q0 := 0) rfl ((fw_get (by decide)).trans (by rw [mE_obj]; rfl)), fun U hU hW => ⟨rfl, by rw [hU], by rw [hU]; exact hP, va_K.moved hW.alike hK⟩⟩ rfl rfl hl.1 rfl (lv_room (Nat.le_of_ble_eq_true rfl)) dX10_node_56 ⟨Nat.le_of_ble_eq_true rfl, Nat.le_of_ble_eq_true rfl⟩) hS (fun q _ h => fA_le hS.1 q h) (fA_le hS.1) (fun r9 u9 t9 H1 locs ht9 hvm9 hw9 hB9 hz9 hk9 hS => ?_)
      obtain ⟨μ11, r12⟩ := u9
      obtain ⟨hP, -⟩ := hB9
      rw [ht9] at hP
      generalize H1 = H at hP hS ⊢
      obtain ⟨e9, hw9⟩ := hw9
      have e9 : r9 = iZ r12 := e9
      subst e9
      simp only at hP hw9
      have hμ11 := hw9; clear hw9
      rw [hμ11] at hP
      exact W.iret (v := iZ (r12)) hx hb hr (fun t9 ht9 hW9 => ⟨⟨iZ (r12), (μ8, r12), rfl, ⟨rfl, (by
                    dsimp only
                    exact ⟨hfr, by omega⟩)⟩, by rw [ht9]; exact hP, va_K.moved hW9.alike hK⟩, hS.F ht9⟩) hS.2.2 dX10_node_59
    · refine lv_iconst (v := iZ 1) hx hb dX10_node_37 rfl ?_
      refine lv_goto (tgt := 42) hx hb dX10_node_38 (by decide) ?_
      refine lv_iconst (v := iZ 2) hx hb dX10_node_42 rfl ?_
      refine lv_iconst (v := iZ 1) hx hb dX10_node_43 rfl ?_
      refine va_calli (va_runV (As := [.int (iZ (1)), .int (iZ (2)), .int (iZ (1))]) (rest := []) ⟨hx, hb, hml, hown, hts⟩ (m_bad2 l dC dI cI cZ cII cIII h0 H.size μ4 (1) (2) (1) (by first | assumption | omega | exact ⟨by omega, by omega⟩) (by first | assumption | omega | exact ⟨by omega, by omega⟩) (by first | assumption | omega | exact ⟨by omega, by omega⟩) (by first | assumption | omega | exact ⟨by omega, by omega⟩)) (cwV 3 hts (gV_G k1338 k1340 ks_yX10_bad k13 k1341) rfl rfl rfl (by decide +kernel) ⟨Nat.le_of_ble_eq_true rfl, Nat.le_of_ble_eq_true rfl⟩) ⟨fun a U g mk q => by obtain ⟨q0, q1, qP, qK⟩ := q; exact ⟨q0, q1, qP, va_K.moved (u := U) (U := U.calling g mk a) (Vm.Alike.refl U.vm) qK⟩, va_recv hK hP (ci := 10) (q0 := 0) rfl ((fw_get (by decide)).trans (by rw [mE_obj]; rfl)), fun U hU hW => ⟨rfl, by rw [hU], by rw [hU]; exact hP, va_K.moved hW.alike hK⟩⟩ rfl rfl hl.1 rfl (lv_room (Nat.le_of_ble_eq_true rfl)) dX10_node_44 ⟨Nat.le_of_ble_eq_true rfl, Nat.le_of_ble_eq_true rfl⟩) hS (fun q _ h => fA_le hS.1 q h) (fA_le hS.1) (fun r9 u9 t9 H1 locs ht9 hvm9 hw9 hB9 hz9 hk9 hS => ?_)
      obtain ⟨μ13, r14⟩ := u9
      obtain ⟨hP, -⟩ := hB9
      rw [ht9] at hP
      generalize H1 = H at hP hS ⊢
      obtain ⟨e9, hw9⟩ := hw9
      have e9 : r9 = iZ r14 := e9
      subst e9
      simp only at hP hw9
      have hμ13 := hw9; clear hw9
      have hfr := fr_trans hfr (badP_fr hμ13)
      have hrb := badP_r hμ13
      obtain rfl : r14 = 1 := by omega
      refine fz_if_eq (tgt := 52) (by decide) hx hb dX10_node_47 (by decide) (fun h9 => absurd h9 (by decide)) (fun c47_ => ?_)
      refine lv_iconst (v := iZ 0) hx hb dX10_node_50 rfl ?_
      exact W.iret (v := iZ (0)) hx hb hr (fun t9 ht9 hW9 => ⟨⟨iZ (0), (μ13, 0), rfl, ⟨rfl, (by
                    dsimp only
                    exact ⟨hfr, by omega⟩)⟩, by rw [ht9]; exact hP, va_K.moved hW9.alike hK⟩, hS.F ht9⟩) hS.2.2 dX10_node_51
  · refine lv_iconst (v := iZ 1) hx hb dX10_node_14 rfl ?_
    refine lv_goto (tgt := 19) hx hb dX10_node_15 (by decide) ?_
    refine lv_iconst (v := iZ 1) hx hb dX10_node_19 rfl ?_
    refine lv_iconst (v := iZ 0) hx hb dX10_node_20 rfl ?_
    refine va_calli (va_runV (As := [.int (iZ (1)), .int (iZ (1)), .int (iZ (0))]) (rest := []) ⟨hx, hb, hml, hown, hts⟩ (m_bad2 l dC dI cI cZ cII cIII h0 H.size μ1 (1) (1) (0) (by first | assumption | omega | exact ⟨by omega, by omega⟩) (by first | assumption | omega | exact ⟨by omega, by omega⟩) (by first | assumption | omega | exact ⟨by omega, by omega⟩) (by first | assumption | omega | exact ⟨by omega, by omega⟩)) (cwV 3 hts (gV_G k1338 k1340 ks_yX10_bad k13 k1341) rfl rfl rfl (by decide +kernel) ⟨Nat.le_of_ble_eq_true rfl, Nat.le_of_ble_eq_true rfl⟩) ⟨fun a U g mk q => by obtain ⟨q0, q1, qP, qK⟩ := q; exact ⟨q0, q1, qP, va_K.moved (u := U) (U := U.calling g mk a) (Vm.Alike.refl U.vm) qK⟩, va_recv hK hP (ci := 10) (q0 := 0) rfl ((fw_get (by decide)).trans (by rw [mE_obj]; rfl)), fun U hU hW => ⟨rfl, by rw [hU], by rw [hU]; exact hP, va_K.moved hW.alike hK⟩⟩ rfl rfl hl.1 rfl (lv_room (Nat.le_of_ble_eq_true rfl)) dX10_node_21 ⟨Nat.le_of_ble_eq_true rfl, Nat.le_of_ble_eq_true rfl⟩) hS (fun q _ h => fA_le hS.1 q h) (fA_le hS.1) (fun r9 u9 t9 H1 locs ht9 hvm9 hw9 hB9 hz9 hk9 hS => ?_)
    obtain ⟨μ15, r16⟩ := u9
    obtain ⟨hP, -⟩ := hB9
    rw [ht9] at hP
    generalize H1 = H at hP hS ⊢
    obtain ⟨e9, hw9⟩ := hw9
    have e9 : r9 = iZ r16 := e9
    subst e9
    simp only at hP hw9
    have hμ15 := hw9; clear hw9
    have hfr := fr_trans hfr (badP_fr hμ15)
    have hrb := badP_r hμ15
    obtain rfl : r16 = 1 := by omega
    refine fz_if_ne (tgt := 50) (by decide) hx hb dX10_node_24 (by decide) (fun c24_ => ?_) (fun h9 => absurd h9 (by decide))
    refine lv_iconst (v := iZ 0) hx hb dX10_node_50 rfl ?_
    exact W.iret (v := iZ (0)) hx hb hr (fun t9 ht9 hW9 => ⟨⟨iZ (0), (μ15, 0), rfl, ⟨rfl, (by
                dsimp only
                exact ⟨hfr, by omega⟩)⟩, by rw [ht9]; exact hP, va_K.moved hW9.alike hK⟩, hS.F ht9⟩) hS.2.2 dX10_node_51
set_option maxHeartbeats 4000000 in
set_option maxRecDepth 100000 in
theorem m_pageNode (l : Launch) (dC : Nat → ClassId) (dI : Nat → Nat → Nat) (cI cZ cII cIII : ClassId) (h0 sz : Nat) (μ : va_M) (pp : Int) (i : Int) (w : Int) (hQ : RQ μ) (hp : inR pp) (hi9 : inR i) (hw9 : inR w) : Met l yX10_pageNode (Cond.code yX10_pageNode cX10_pageNode 5 (some .int) :: wsG) ({ frames := 3, cells := 0, slots := 0, locals := 62 } : Room) (va_Pc [.ref h0, .int (iZ (pp)), .int (iZ (i)), .int (iZ (w))] (fun U => U.heap.size = sz ∧ va_P (dC, dI) vwCl (fw (mE cI cZ cII cIII h0) h0 6325 μ) U.heap ∧ va_K (dC, dI) vwCl (mT cI cZ cII cIII) U)) (va_Qi (fun (r9 : Int32) (u : va_M × Int) => r9 = iZ u.2 ∧ (fun (u : va_M) (r : Int) => fr PS μ u ∧ (u 0 0 = 0 ∨ u 0 0 = 1 ∨ u 0 0 = 2)) u.1 u.2) (fun u t => va_P (dC, dI) vwCl (fw (mE cI cZ cII cIII h0) h0 6325 u.1) t.heap ∧ va_K (dC, dI) vwCl (mT cI cZ cII cIII) t) (fA h0 6325 sz)) 0 0 (fA h0 6325 sz) := by
  refine Met.ofW (cc := cX10_pageNode) (maxL := 5) (ret := (some .int)) (by decide) rfl ?_
  intro p e s m args below meth c s₁ B hml hv
  obtain ⟨rfl, hsz, hP, hK⟩ := hv
  have hx := B.exec
  have hb := B.bytes
  have hr := B.returns
  have hts : ∀ w ∈ wsG, w.before _ s = true := hG_of (atoms_spec (ws := (Cond.code yX10_pageNode cX10_pageNode 5 (some .int) :: wsG)) B.pre)
  have hown : s.vm.findClass RX10 = some m.cls := findClass_of_methodNamed B.named
  have hlocks := B.notSynchronized
  subst hsz
  have hS : va_S (fA h0 6325 s.heap.size) s.heap s.heap [] := va_S.rf
  have hl := lv_entry ([.ref h0, .int (iZ (pp)), .int (iZ (i)), .int (iZ (w))]) (n := 5) (Nat.le_of_ble_eq_true rfl)
  rw [lg_entry_eq]
  generalize (lg_sl ([.ref h0, .int (iZ (pp)), .int (iZ (i)), .int (iZ (w))]) ++ List.replicate (5 - (lg_sl ([.ref h0, .int (iZ (pp)), .int (iZ (i)), .int (iZ (w))])).length) Slot.unset).toArray = ls at hl ⊢
  have hl : lv_has ls 5 [(0, .ref h0), (1, .int (iZ (pp))), (2, .int (iZ (i))), (3, .int (iZ (w)))] := hl
  refine lv_aload_n hx hb dX10_pageNode_0 rfl (lv_at hl 0 rfl) ?_
  refine lv_iconst (v := iZ 0) hx hb dX10_pageNode_1 rfl ?_
  refine fz_put (D := (dC, dI)) (ci := 10) (ty := .int) (z := 0) (C := RX10) (T := TX10) (N := 53) hx hb hts inG10 tyX10 tyX10_ok nmX10 hown hK hP fA_in hS (k := 0) (by decide) (F := mF h0) mE_obj rfl 0 (by decide) (hts _ k1166) (fun _ h9 => h9) rfl (by decide +kernel) rfl rfl (fun _ => Nat.le_of_ble_eq_true rfl) (fun _ _ => rfl) dX10_pageNode_2 (fun H locs hP hS => ?_)
  obtain ⟨μ1, eμ1⟩ : ∃ x : va_M, x = uz μ 0 0 (0) := ⟨_, rfl⟩
  rw [← eμ1] at hP
  have hfr : fr PS μ μ1 := by rw [eμ1]; exact fr_uz fr_rfl (by unfold PS; omega)
  have ht0 : μ1 0 0 = 0 := by rw [eμ1, uz_s]
  have e10 := hfr 0 10 (PS_n (by omega))
  have e9 := hfr 0 9 (PS_n (by omega))
  have e71 := hfr 719 0 (PS_n (by omega))
  have hQ1 := RQ_fr hQ hfr
  have hQc := hQ
  obtain ⟨f10, ⟨fT, fTb, fTw⟩, fS3, fPg, fw9, fwB, fwT⟩ := hQc
  obtain ⟨g10, ⟨gT, gTb, gTw⟩, gS3, gPg, gw, gwB, gwT⟩ := hQ1
  have gtk := TR_tok gwT gwB.1 gwB.2.1
  have gt1 := gtk.1
  have gt2 := gtk.2.1
  refine lv_aload_n hx hb dX10_pageNode_5 rfl (lv_at hl 0 rfl) ?_
  refine lv_iload_n hx hb dX10_pageNode_6 rfl (lv_at hl 1 rfl) ?_
  refine va_calli (va_runV (As := [.int (iZ (pp))]) (rest := []) ⟨hx, hb, hml, hown, hts⟩ (m_isPage l dC dI cI cZ cII cIII h0 H.size μ1 (pp) (by first | assumption | omega | exact ⟨by omega, by omega⟩) (by first | assumption | omega | exact ⟨by omega, by omega⟩)) (cwV 1 hts (gV_G k1584 k1586 ks_yX10_isPage k13 k1587) rfl rfl rfl (by decide +kernel) ⟨Nat.le_of_ble_eq_true rfl, Nat.le_of_ble_eq_true rfl⟩) ⟨fun a U g mk q => by obtain ⟨q0, q1, qP, qK⟩ := q; exact ⟨q0, q1, qP, va_K.moved (u := U) (U := U.calling g mk a) (Vm.Alike.refl U.vm) qK⟩, va_recv hK hP (ci := 10) (q0 := 0) rfl ((fw_get (by decide)).trans (by rw [mE_obj]; rfl)), fun U hU hW => ⟨rfl, by rw [hU], by rw [hU]; exact hP, va_K.moved hW.alike hK⟩⟩ rfl rfl hl.1 rfl (lv_room (Nat.le_of_ble_eq_true rfl)) dX10_pageNode_7 ⟨Nat.le_of_ble_eq_true rfl, Nat.le_of_ble_eq_true rfl⟩) hS (fun q _ h => fA_le hS.1 q h) (fA_le hS.1) (fun r9 u9 t9 H1 locs ht9 hvm9 hw9 hB9 hz9 hk9 hS => ?_)
  obtain ⟨μ2, r3⟩ := u9
  obtain ⟨hP, -⟩ := hB9
  rw [ht9] at hP
  generalize H1 = H at hP hS ⊢
  obtain ⟨e9, hw9⟩ := hw9
  have e9 : r9 = iZ r3 := e9
  subst e9
  simp only at hP hw9
  have hμ2 := hw9; clear hw9
  rw [hμ2.1] at hP; have hμ2 := hμ2.2
  have hip := hμ2
  have hip2 := if_01 hμ2
  refine fz_if_eq (tgt := 36) (by constructor <;> omega) hx hb dX10_pageNode_10 (by decide) (fun c10_ => ?_) (fun c10_ => ?_)
  · refine lv_iconst (v := iZ 0) hx hb dX10_pageNode_36 rfl ?_
    refine lv_istore (lv' := [(4, .int (iZ (0))), (0, .ref h0), (1, .int (iZ (pp))), (2, .int (iZ (i))), (3, .int (iZ (w)))]) hx hb dX10_pageNode_37 hl (by decide) rfl (fun ls hl => ?_)
    refine lv_aload_n hx hb dX10_pageNode_39 rfl (lv_at hl 1 rfl) ?_
    refine lv_iload hx hb dX10_pageNode_40 (lv_at hl 0 rfl) ?_
    refine fz_if_ne (tgt := 49) (by decide) hx hb dX10_pageNode_42 (by decide) (fun h9 => absurd h9 (by decide)) (fun c42_ => ?_)
    refine lv_iconst (v := iZ 1) hx hb dX10_pageNode_45 rfl ?_
    refine lv_goto (tgt := 50) hx hb dX10_pageNode_46 (by decide) ?_
    refine lv_iconst (v := iZ 1) hx hb dX10_pageNode_50 rfl ?_
    refine lv_iconst (v := iZ 0) hx hb dX10_pageNode_51 rfl ?_
    refine va_calli (va_runV (As := [.int (iZ (1)), .int (iZ (1)), .int (iZ (0))]) (rest := []) ⟨hx, hb, hml, hown, hts⟩ (m_bad2 l dC dI cI cZ cII cIII h0 H.size μ1 (1) (1) (0) (by first | assumption | omega | exact ⟨by omega, by omega⟩) (by first | assumption | omega | exact ⟨by omega, by omega⟩) (by first | assumption | omega | exact ⟨by omega, by omega⟩) (by first | assumption | omega | exact ⟨by omega, by omega⟩)) (cwV 3 hts (gV_G k1338 k1340 ks_yX10_bad k13 k1341) rfl rfl rfl (by decide +kernel) ⟨Nat.le_of_ble_eq_true rfl, Nat.le_of_ble_eq_true rfl⟩) ⟨fun a U g mk q => by obtain ⟨q0, q1, qP, qK⟩ := q; exact ⟨q0, q1, qP, va_K.moved (u := U) (U := U.calling g mk a) (Vm.Alike.refl U.vm) qK⟩, va_recv hK hP (ci := 10) (q0 := 0) rfl ((fw_get (by decide)).trans (by rw [mE_obj]; rfl)), fun U hU hW => ⟨rfl, by rw [hU], by rw [hU]; exact hP, va_K.moved hW.alike hK⟩⟩ rfl rfl hl.1 rfl (lv_room (Nat.le_of_ble_eq_true rfl)) dX10_pageNode_52 ⟨Nat.le_of_ble_eq_true rfl, Nat.le_of_ble_eq_true rfl⟩) hS (fun q _ h => fA_le hS.1 q h) (fA_le hS.1) (fun r9 u9 t9 H1 locs ht9 hvm9 hw9 hB9 hz9 hk9 hS => ?_)
    obtain ⟨μ4, r5⟩ := u9
    obtain ⟨hP, -⟩ := hB9
    rw [ht9] at hP
    generalize H1 = H at hP hS ⊢
    obtain ⟨e9, hw9⟩ := hw9
    have e9 : r9 = iZ r5 := e9
    subst e9
    simp only at hP hw9
    have hμ4 := hw9; clear hw9
    have hfr := fr_trans hfr (badP_fr hμ4)
    have hrb := badP_r hμ4
    obtain rfl : r5 = 1 := by omega
    refine fz_if_ne (tgt := 81) (by decide) hx hb dX10_pageNode_55 (by decide) (fun c55_ => ?_) (fun h9 => absurd h9 (by decide))
    refine lv_iconst (v := iZ 0) hx hb dX10_pageNode_81 rfl ?_
    exact W.iret (v := iZ (0)) hx hb hr (fun t9 ht9 hW9 => ⟨⟨iZ (0), (μ4, 0), rfl, ⟨rfl, (by
                dsimp only
                exact ⟨hfr, by omega⟩)⟩, by rw [ht9]; exact hP, va_K.moved hW9.alike hK⟩, hS.F ht9⟩) hS.2.2 dX10_pageNode_82
  · have hpp := if_get hip (by omega)
    obtain ⟨q1, q2, q3, qw, qw1, qw2, qw3⟩ := fPg pp.toNat (by omega)
    have qwb := rPage_b qw1
    have qt1 := qw3.1
    have e17 : (17 + pp).toNat = 17 + pp.toNat := by omega
    refine lv_iload_n hx hb dX10_pageNode_13 rfl (lv_at hl 2 rfl) ?_
    refine lv_iconst (v := iZ 0) hx hb dX10_pageNode_14 rfl ?_
    refine lv_aload_n hx hb dX10_pageNode_15 rfl (lv_at hl 0 rfl) ?_
    refine fz_get (D := (dC, dI)) (ci := 10) (v := .ref (h0 + 719)) (C := RX10) (T := TX10) (N := 53) hx hb hts inG10 hown hK hP (k := 0) (by decide) (F := mF h0) mE_obj rfl 21 (by decide) (hts _ k1187) (fun _ h9 => h9) rfl dX10_pageNode_16 ?_
    refine lv_bipush (v := iZ 17) hx hb dX10_pageNode_19 rfl ?_
    refine lv_iload_n hx hb dX10_pageNode_21 rfl (lv_at hl 1 rfl) ?_
    refine lv_iadd hx hb dX10_pageNode_22 ?_
    refine lv_topi (fun x9 ex9 => ?_)
    obtain rfl : x9 = iZ (17 + pp) := ex9.trans (iZ_add _ _)
    refine fz_ld (k := 719) (n := 70) hx hb hK hP 0 (by decide) mE_nodes rfl ⟨by omega, by omega⟩ (by decide) dX10_pageNode_23 ?_
    rw [show μ1 719 (17 + pp).toNat = μ 719 (17 + pp).toNat from by rw [eμ1, uz_n (by omega)]]
    rw [show μ 719 (17 + pp).toNat = μ 719 (17 + pp.toNat) from (by rw [e17])]
    refine lv_iconst (v := iZ 1) hx hb dX10_pageNode_24 rfl ?_
    refine lv_isub hx hb dX10_pageNode_25 ?_
    refine lv_topi (fun x9 ex9 => ?_)
    obtain rfl : x9 = iZ ((μ 719 (17 + pp.toNat)) - 1) := ex9.trans (iZ_sub _ _)
    refine va_calli (va_runS (As := [.int (iZ (i)), .int (iZ (0)), .int (iZ ((μ 719 (17 + pp.toNat)) - 1))]) (rest := []) ⟨hx, hb, hml, hown, hts⟩ (m_in l dC dI cI cZ cII cIII h0 H.size μ1 (i) (0) ((μ 719 (17 + pp.toNat)) - 1) (by first | assumption | omega | exact ⟨by omega, by omega⟩) (by first | assumption | omega | exact ⟨by omega, by omega⟩) (by first | assumption | omega | exact ⟨by omega, by omega⟩)) (cwS 3 hts (gS_G k1335 k1336 k13 k1337) rfl rfl rfl (by decide +kernel) ⟨Nat.le_of_ble_eq_true rfl, Nat.le_of_ble_eq_true rfl⟩) ⟨fun a U g mk q => by obtain ⟨q0, q1, qP, qK⟩ := q; exact ⟨q0, q1, qP, va_K.moved (u := U) (U := U.calling g mk a) (Vm.Alike.refl U.vm) qK⟩, fun U hU hW => ⟨rfl, by rw [hU], by rw [hU]; exact hP, va_K.moved hW.alike hK⟩⟩ rfl rfl hl.1 rfl (lv_room (Nat.le_of_ble_eq_true rfl)) dX10_pageNode_26 ⟨Nat.le_of_ble_eq_true rfl, Nat.le_of_ble_eq_true rfl⟩) hS (fun q _ h => fA_le hS.1 q h) (fA_le hS.1) (fun r9 u9 t9 H1 locs ht9 hvm9 hw9 hB9 hz9 hk9 hS => ?_)
    obtain ⟨μ6, r7⟩ := u9
    obtain ⟨hP, -⟩ := hB9
    rw [ht9] at hP
    generalize H1 = H at hP hS ⊢
    obtain ⟨e9, hw9⟩ := hw9
    have e9 : r9 = iZ r7 := e9
    subst e9
    simp only at hP hw9
    have hμ6 := hw9; clear hw9
    rw [hμ6.1] at hP; have hμ6 := hμ6.2
    have hin := hμ6
    have hin2 := if_01 hμ6
    refine fz_if_eq (tgt := 36) (by constructor <;> omega) hx hb dX10_pageNode_29 (by decide) (fun c29_ => ?_) (fun c29_ => ?_)
    · refine lv_iconst (v := iZ 0) hx hb dX10_pageNode_36 rfl ?_
      refine lv_istore (lv' := [(4, .int (iZ (0))), (0, .ref h0), (1, .int (iZ (pp))), (2, .int (iZ (i))), (3, .int (iZ (w)))]) hx hb dX10_pageNode_37 hl (by decide) rfl (fun ls hl => ?_)
      refine lv_aload_n hx hb dX10_pageNode_39 rfl (lv_at hl 1 rfl) ?_
      refine lv_iload hx hb dX10_pageNode_40 (lv_at hl 0 rfl) ?_
      refine fz_if_ne (tgt := 49) (by decide) hx hb dX10_pageNode_42 (by decide) (fun h9 => absurd h9 (by decide)) (fun c42_ => ?_)
      refine lv_iconst (v := iZ 1) hx hb dX10_pageNode_45 rfl ?_
      refine lv_goto (tgt := 50) hx hb dX10_pageNode_46 (by decide) ?_
      refine lv_iconst (v := iZ 1) hx hb dX10_pageNode_50 rfl ?_
      refine lv_iconst (v := iZ 0) hx hb dX10_pageNode_51 rfl ?_
      refine va_calli (va_runV (As := [.int (iZ (1)), .int (iZ (1)), .int (iZ (0))]) (rest := []) ⟨hx, hb, hml, hown, hts⟩ (m_bad2 l dC dI cI cZ cII cIII h0 H.size μ1 (1) (1) (0) (by first | assumption | omega | exact ⟨by omega, by omega⟩) (by first | assumption | omega | exact ⟨by omega, by omega⟩) (by first | assumption | omega | exact ⟨by omega, by omega⟩) (by first | assumption | omega | exact ⟨by omega, by omega⟩)) (cwV 3 hts (gV_G k1338 k1340 ks_yX10_bad k13 k1341) rfl rfl rfl (by decide +kernel) ⟨Nat.le_of_ble_eq_true rfl, Nat.le_of_ble_eq_true rfl⟩) ⟨fun a U g mk q => by obtain ⟨q0, q1, qP, qK⟩ := q; exact ⟨q0, q1, qP, va_K.moved (u := U) (U := U.calling g mk a) (Vm.Alike.refl U.vm) qK⟩, va_recv hK hP (ci := 10) (q0 := 0) rfl ((fw_get (by decide)).trans (by rw [mE_obj]; rfl)), fun U hU hW => ⟨rfl, by rw [hU], by rw [hU]; exact hP, va_K.moved hW.alike hK⟩⟩ rfl rfl hl.1 rfl (lv_room (Nat.le_of_ble_eq_true rfl)) dX10_pageNode_52 ⟨Nat.le_of_ble_eq_true rfl, Nat.le_of_ble_eq_true rfl⟩) hS (fun q _ h => fA_le hS.1 q h) (fA_le hS.1) (fun r9 u9 t9 H1 locs ht9 hvm9 hw9 hB9 hz9 hk9 hS => ?_)
      obtain ⟨μ8, r10⟩ := u9
      obtain ⟨hP, -⟩ := hB9
      rw [ht9] at hP
      generalize H1 = H at hP hS ⊢
      obtain ⟨e9, hw9⟩ := hw9
      have e9 : r9 = iZ r10 := e9
      subst e9
      simp only at hP hw9
      have hμ8 := hw9; clear hw9
      have hfr := fr_trans hfr (badP_fr hμ8)
      have hrb := badP_r hμ8
      obtain rfl : r10 = 1 := by omega
      refine fz_if_ne (tgt := 81) (by decide) hx hb dX10_pageNode_55 (by decide) (fun c55_ => ?_) (fun h9 => absurd h9 (by decide))
      refine lv_iconst (v := iZ 0) hx hb dX10_pageNode_81 rfl ?_
      exact W.iret (v := iZ (0)) hx hb hr (fun t9 ht9 hW9 => ⟨⟨iZ (0), (μ8, 0), rfl, ⟨rfl, (by
                    dsimp only
                    exact ⟨hfr, by omega⟩)⟩, by rw [ht9]; exact hP, va_K.moved hW9.alike hK⟩, hS.F ht9⟩) hS.2.2 dX10_pageNode_82
    · have hkk := if_get hin (by omega)
      refine lv_iconst (v := iZ 1) hx hb dX10_pageNode_32 rfl ?_
      refine lv_goto (tgt := 37) hx hb dX10_pageNode_33 (by decide) ?_
      refine lv_istore (lv' := [(4, .int (iZ (1))), (0, .ref h0), (1, .int (iZ (pp))), (2, .int (iZ (i))), (3, .int (iZ (w)))]) hx hb dX10_pageNode_37 hl (by decide) rfl (fun ls hl => ?_)
      refine lv_aload_n hx hb dX10_pageNode_39 rfl (lv_at hl 1 rfl) ?_
      refine lv_iload hx hb dX10_pageNode_40 (lv_at hl 0 rfl) ?_
      refine fz_if_ne (tgt := 49) (by decide) hx hb dX10_pageNode_42 (by decide) (fun c42_ => ?_) (fun h9 => absurd h9 (by decide))
      refine lv_iconst (v := iZ 0) hx hb dX10_pageNode_49 rfl ?_
      refine lv_iconst (v := iZ 1) hx hb dX10_pageNode_50 rfl ?_
      refine lv_iconst (v := iZ 0) hx hb dX10_pageNode_51 rfl ?_
      refine va_calli (va_runV (As := [.int (iZ (0)), .int (iZ (1)), .int (iZ (0))]) (rest := []) ⟨hx, hb, hml, hown, hts⟩ (m_bad2 l dC dI cI cZ cII cIII h0 H.size μ1 (0) (1) (0) (by first | assumption | omega | exact ⟨by omega, by omega⟩) (by first | assumption | omega | exact ⟨by omega, by omega⟩) (by first | assumption | omega | exact ⟨by omega, by omega⟩) (by first | assumption | omega | exact ⟨by omega, by omega⟩)) (cwV 3 hts (gV_G k1338 k1340 ks_yX10_bad k13 k1341) rfl rfl rfl (by decide +kernel) ⟨Nat.le_of_ble_eq_true rfl, Nat.le_of_ble_eq_true rfl⟩) ⟨fun a U g mk q => by obtain ⟨q0, q1, qP, qK⟩ := q; exact ⟨q0, q1, qP, va_K.moved (u := U) (U := U.calling g mk a) (Vm.Alike.refl U.vm) qK⟩, va_recv hK hP (ci := 10) (q0 := 0) rfl ((fw_get (by decide)).trans (by rw [mE_obj]; rfl)), fun U hU hW => ⟨rfl, by rw [hU], by rw [hU]; exact hP, va_K.moved hW.alike hK⟩⟩ rfl rfl hl.1 rfl (lv_room (Nat.le_of_ble_eq_true rfl)) dX10_pageNode_52 ⟨Nat.le_of_ble_eq_true rfl, Nat.le_of_ble_eq_true rfl⟩) hS (fun q _ h => fA_le hS.1 q h) (fA_le hS.1) (fun r9 u9 t9 H1 locs ht9 hvm9 hw9 hB9 hz9 hk9 hS => ?_)
      obtain ⟨μ11, r12⟩ := u9
      obtain ⟨hP, -⟩ := hB9
      rw [ht9] at hP
      generalize H1 = H at hP hS ⊢
      obtain ⟨e9, hw9⟩ := hw9
      have e9 : r9 = iZ r12 := e9
      subst e9
      simp only at hP hw9
      have hμ11 := hw9; clear hw9
      have hfr := fr_trans hfr (badP_fr hμ11)
      have hrb := badP_r hμ11
      obtain rfl : r12 = 0 := by omega
      refine fz_if_ne (tgt := 81) (by decide) hx hb dX10_pageNode_55 (by decide) (fun h9 => absurd h9 (by decide)) (fun c55_ => ?_)
      refine lv_aload_n hx hb dX10_pageNode_58 rfl (lv_at hl 1 rfl) ?_
      refine lv_iload_n hx hb dX10_pageNode_59 rfl (lv_at hl 4 rfl) ?_
      refine lv_iconst (v := iZ 0) hx hb dX10_pageNode_60 rfl ?_
      refine lv_iconst (v := iZ 5) hx hb dX10_pageNode_61 rfl ?_
      refine va_calli (va_runS (As := [.int (iZ (w)), .int (iZ (0)), .int (iZ (5))]) (rest := [.ref h0]) ⟨hx, hb, hml, hown, hts⟩ (m_in l dC dI cI cZ cII cIII h0 H.size μ11 (w) (0) (5) (by first | assumption | omega | exact ⟨by omega, by omega⟩) (by first | assumption | omega | exact ⟨by omega, by omega⟩) (by first | assumption | omega | exact ⟨by omega, by omega⟩)) (cwS 3 hts (gS_G k1335 k1336 k13 k1337) rfl rfl rfl (by decide +kernel) ⟨Nat.le_of_ble_eq_true rfl, Nat.le_of_ble_eq_true rfl⟩) ⟨fun a U g mk q => by obtain ⟨q0, q1, qP, qK⟩ := q; exact ⟨q0, q1, qP, va_K.moved (u := U) (U := U.calling g mk a) (Vm.Alike.refl U.vm) qK⟩, fun U hU hW => ⟨rfl, by rw [hU], by rw [hU]; exact hP, va_K.moved hW.alike hK⟩⟩ rfl rfl hl.1 rfl (lv_room (Nat.le_of_ble_eq_true rfl)) dX10_pageNode_62 ⟨Nat.le_of_ble_eq_true rfl, Nat.le_of_ble_eq_true rfl⟩) hS (fun q _ h => fA_le hS.1 q h) (fA_le hS.1) (fun r9 u9 t9 H1 locs ht9 hvm9 hw9 hB9 hz9 hk9 hS => ?_)
      obtain ⟨μ13, r14⟩ := u9
      obtain ⟨hP, -⟩ := hB9
      rw [ht9] at hP
      generalize H1 = H at hP hS ⊢
      obtain ⟨e9, hw9⟩ := hw9
      have e9 : r9 = iZ r14 := e9
      subst e9
      simp only at hP hw9
      have hμ13 := hw9; clear hw9
      rw [hμ13.1] at hP; have hμ13 := hμ13.2
      have hin := hμ13
      have hin2 := if_01 hμ13
      refine fz_if_ne (tgt := 72) (by constructor <;> omega) hx hb dX10_pageNode_65 (by decide) (fun c65_ => ?_) (fun c65_ => ?_)
      · refine lv_iconst (v := iZ 0) hx hb dX10_pageNode_72 rfl ?_
        refine lv_iconst (v := iZ 2) hx hb dX10_pageNode_73 rfl ?_
        refine lv_iconst (v := iZ 1) hx hb dX10_pageNode_74 rfl ?_
        refine va_calli (va_runV (As := [.int (iZ (0)), .int (iZ (2)), .int (iZ (1))]) (rest := []) ⟨hx, hb, hml, hown, hts⟩ (m_bad2 l dC dI cI cZ cII cIII h0 H.size μ11 (0) (2) (1) (by first | assumption | omega | exact ⟨by omega, by omega⟩) (by first | assumption | omega | exact ⟨by omega, by omega⟩) (by first | assumption | omega | exact ⟨by omega, by omega⟩) (by first | assumption | omega | exact ⟨by omega, by omega⟩)) (cwV 3 hts (gV_G k1338 k1340 ks_yX10_bad k13 k1341) rfl rfl rfl (by decide +kernel) ⟨Nat.le_of_ble_eq_true rfl, Nat.le_of_ble_eq_true rfl⟩) ⟨fun a U g mk q => by obtain ⟨q0, q1, qP, qK⟩ := q; exact ⟨q0, q1, qP, va_K.moved (u := U) (U := U.calling g mk a) (Vm.Alike.refl U.vm) qK⟩, va_recv hK hP (ci := 10) (q0 := 0) rfl ((fw_get (by decide)).trans (by rw [mE_obj]; rfl)), fun U hU hW => ⟨rfl, by rw [hU], by rw [hU]; exact hP, va_K.moved hW.alike hK⟩⟩ rfl rfl hl.1 rfl (lv_room (Nat.le_of_ble_eq_true rfl)) dX10_pageNode_75 ⟨Nat.le_of_ble_eq_true rfl, Nat.le_of_ble_eq_true rfl⟩) hS (fun q _ h => fA_le hS.1 q h) (fA_le hS.1) (fun r9 u9 t9 H1 locs ht9 hvm9 hw9 hB9 hz9 hk9 hS => ?_)
        obtain ⟨μ15, r16⟩ := u9
        obtain ⟨hP, -⟩ := hB9
        rw [ht9] at hP
        generalize H1 = H at hP hS ⊢
        obtain ⟨e9, hw9⟩ := hw9
        have e9 : r9 = iZ r16 := e9
        subst e9
        simp only at hP hw9
        have hμ15 := hw9; clear hw9
        have hfr := fr_trans hfr (badP_fr hμ15)
        have hrb := badP_r hμ15
        obtain rfl : r16 = 0 := by omega
        refine fz_if_eq (tgt := 83) (by decide) hx hb dX10_pageNode_78 (by decide) (fun c78_ => ?_) (fun h9 => absurd h9 (by decide))
        have hQ2 := RQ_fr hQ hfr
        obtain ⟨k10, ⟨kT, kTb, kTw⟩, kS3, kPg, kw, kwB, kwT⟩ := hQ2
        have e10k := hfr 0 10 (PS_n (by omega))
        have e9k := hfr 0 9 (PS_n (by omega))
        have e71k := hfr 719 0 (PS_n (by omega))
        have ktk := TR_tok kwT kwB.1 kwB.2.1
        have kt1 := ktk.1
        have kt2 := ktk.2.1
        obtain ⟨p1, p2, p3, pw, pw1, pw2, pw3⟩ := kPg pp.toNat (by omega)
        have pwb := rPage_b pw1
        have ptk : tok μ15 (17 + pp).toNat := by rw [show (17 + pp).toNat = 17 + pp.toNat by omega]; exact TR_tok pw3 pw1.1 (by omega)
        have pt1 := ptk.1
        have pt2 := ptk.2.1
        have pTR : TR μ15 (17 + pp).toNat pw := by rw [show (17 + pp).toNat = 17 + pp.toNat by omega]; exact pw3
        refine lv_aload_n hx hb dX10_pageNode_83 rfl (lv_at hl 1 rfl) ?_
        refine lv_bipush (v := iZ 17) hx hb dX10_pageNode_84 rfl ?_
        refine lv_iload_n hx hb dX10_pageNode_86 rfl (lv_at hl 2 rfl) ?_
        refine lv_iadd hx hb dX10_pageNode_87 ?_
        refine lv_topi (fun x9 ex9 => ?_)
        obtain rfl : x9 = iZ (17 + pp) := ex9.trans (iZ_add _ _)
        refine lv_iload_n hx hb dX10_pageNode_88 rfl (lv_at hl 3 rfl) ?_
        refine lv_iload_n hx hb dX10_pageNode_89 rfl (lv_at hl 4 rfl) ?_
        refine va_calli (va_runV (As := [.int (iZ (17 + pp)), .int (iZ (i)), .int (iZ (w))]) (rest := []) ⟨hx, hb, hml, hown, hts⟩ (m_of l dC dI cI cZ cII cIII h0 H.size μ15 (17 + pp) (i) (w) (by omega) (by have e719 := hfr 719 (17 + pp.toNat) (PS_n (by omega)); rw [show (17 + pp).toNat = 17 + pp.toNat by omega]; omega) (by exact ⟨pw, pTR, pw1.1, by omega⟩) (by first | assumption | omega | exact ⟨by omega, by omega⟩)) (cwV 3 hts (gV_G k1623 k1625 ks_yX10_of k13 k1626) rfl rfl rfl (by decide +kernel) ⟨Nat.le_of_ble_eq_true rfl, Nat.le_of_ble_eq_true rfl⟩) ⟨fun a U g mk q => by obtain ⟨q0, q1, qP, qK⟩ := q; exact ⟨q0, q1, qP, va_K.moved (u := U) (U := U.calling g mk a) (Vm.Alike.refl U.vm) qK⟩, va_recv hK hP (ci := 10) (q0 := 0) rfl ((fw_get (by decide)).trans (by rw [mE_obj]; rfl)), fun U hU hW => ⟨rfl, by rw [hU], by rw [hU]; exact hP, va_K.moved hW.alike hK⟩⟩ rfl rfl hl.1 rfl (lv_room (Nat.le_of_ble_eq_true rfl)) dX10_pageNode_90 ⟨Nat.le_of_ble_eq_true rfl, Nat.le_of_ble_eq_true rfl⟩) hS (fun q _ h => fA_le hS.1 q h) (fA_le hS.1) (fun r9 u9 t9 H1 locs ht9 hvm9 hw9 hB9 hz9 hk9 hS => ?_)
        obtain ⟨μ17, r18⟩ := u9
        obtain ⟨hP, -⟩ := hB9
        rw [ht9] at hP
        generalize H1 = H at hP hS ⊢
        obtain ⟨e9, hw9⟩ := hw9
        have e9 : r9 = iZ r18 := e9
        subst e9
        simp only at hP hw9
        have hμ17 := hw9; clear hw9
        rw [hμ17] at hP
        exact W.iret (v := iZ (r18)) hx hb hr (fun t9 ht9 hW9 => ⟨⟨iZ (r18), (μ15, r18), rfl, ⟨rfl, (by
                        dsimp only
                        exact ⟨hfr, by omega⟩)⟩, by rw [ht9]; exact hP, va_K.moved hW9.alike hK⟩, hS.F ht9⟩) hS.2.2 dX10_pageNode_93
      · refine lv_iconst (v := iZ 1) hx hb dX10_pageNode_68 rfl ?_
        refine lv_goto (tgt := 73) hx hb dX10_pageNode_69 (by decide) ?_
        refine lv_iconst (v := iZ 2) hx hb dX10_pageNode_73 rfl ?_
        refine lv_iconst (v := iZ 1) hx hb dX10_pageNode_74 rfl ?_
        refine va_calli (va_runV (As := [.int (iZ (1)), .int (iZ (2)), .int (iZ (1))]) (rest := []) ⟨hx, hb, hml, hown, hts⟩ (m_bad2 l dC dI cI cZ cII cIII h0 H.size μ11 (1) (2) (1) (by first | assumption | omega | exact ⟨by omega, by omega⟩) (by first | assumption | omega | exact ⟨by omega, by omega⟩) (by first | assumption | omega | exact ⟨by omega, by omega⟩) (by first | assumption | omega | exact ⟨by omega, by omega⟩)) (cwV 3 hts (gV_G k1338 k1340 ks_yX10_bad k13 k1341) rfl rfl rfl (by decide +kernel) ⟨Nat.le_of_ble_eq_true rfl, Nat.le_of_ble_eq_true rfl⟩) ⟨fun a U g mk q => by obtain ⟨q0, q1, qP, qK⟩ := q; exact ⟨q0, q1, qP, va_K.moved (u := U) (U := U.calling g mk a) (Vm.Alike.refl U.vm) qK⟩, va_recv hK hP (ci := 10) (q0 := 0) rfl ((fw_get (by decide)).trans (by rw [mE_obj]; rfl)), fun U hU hW => ⟨rfl, by rw [hU], by rw [hU]; exact hP, va_K.moved hW.alike hK⟩⟩ rfl rfl hl.1 rfl (lv_room (Nat.le_of_ble_eq_true rfl)) dX10_pageNode_75 ⟨Nat.le_of_ble_eq_true rfl, Nat.le_of_ble_eq_true rfl⟩) hS (fun q _ h => fA_le hS.1 q h) (fA_le hS.1) (fun r9 u9 t9 H1 locs ht9 hvm9 hw9 hB9 hz9 hk9 hS => ?_)
        obtain ⟨μ19, r20⟩ := u9
        obtain ⟨hP, -⟩ := hB9
        rw [ht9] at hP
        generalize H1 = H at hP hS ⊢
        obtain ⟨e9, hw9⟩ := hw9
        have e9 : r9 = iZ r20 := e9
        subst e9
        simp only at hP hw9
        have hμ19 := hw9; clear hw9
        have hfr := fr_trans hfr (badP_fr hμ19)
        have hrb := badP_r hμ19
        obtain rfl : r20 = 1 := by omega
        refine fz_if_eq (tgt := 83) (by decide) hx hb dX10_pageNode_78 (by decide) (fun h9 => absurd h9 (by decide)) (fun c78_ => ?_)
        refine lv_iconst (v := iZ 0) hx hb dX10_pageNode_81 rfl ?_
        exact W.iret (v := iZ (0)) hx hb hr (fun t9 ht9 hW9 => ⟨⟨iZ (0), (μ19, 0), rfl, ⟨rfl, (by
                        dsimp only
                        exact ⟨hfr, by omega⟩)⟩, by rw [ht9]; exact hP, va_K.moved hW9.alike hK⟩, hS.F ht9⟩) hS.2.2 dX10_pageNode_82

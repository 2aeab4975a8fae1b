theorem k1189 : (Cond.fieldLink "PageSkeletonModel" (319 : Nat) "PageSkeletonModel" "backs" "I") ∈ wsG := wsG_at 1189 (by decide +kernel) (by decide +kernel)
theorem k1190 : (Cond.fieldLink "PageSkeletonModel" (331 : Nat) "PageSkeletonModel" "costs" "I") ∈ wsG := wsG_at 1190 (by decide +kernel) (by decide +kernel)
theorem dX10_alike_0 : decode cX10_alike 0 = .ok (.aload_n 0, 1) := by decide +kernel
theorem dX10_alike_1 : decode cX10_alike 1 = .ok (.iconst 0, 1) := by decide +kernel
theorem dX10_alike_2 : decode cX10_alike 2 = .ok (.putfield 127, 3) := by decide +kernel
theorem dX10_alike_5 : decode cX10_alike 5 = .ok (.aload_n 0, 1) := by decide +kernel
theorem dX10_alike_6 : decode cX10_alike 6 = .ok (.aload_n 0, 1) := by decide +kernel
theorem dX10_alike_7 : decode cX10_alike 7 = .ok (.iload_n 1, 1) := by decide +kernel
theorem dX10_alike_8 : decode cX10_alike 8 = .ok (.invokevirtual 361, 3) := by decide +kernel
theorem dX10_alike_11 : decode cX10_alike 11 = .ok (.ifCond .eq 11, 3) := by decide +kernel
theorem dX10_alike_14 : decode cX10_alike 14 = .ok (.aload_n 0, 1) := by decide +kernel
theorem dX10_alike_15 : decode cX10_alike 15 = .ok (.iload_n 2, 1) := by decide +kernel
theorem dX10_alike_16 : decode cX10_alike 16 = .ok (.invokevirtual 361, 3) := by decide +kernel
theorem dX10_alike_19 : decode cX10_alike 19 = .ok (.ifCond .ne 7, 3) := by decide +kernel
theorem dX10_alike_22 : decode cX10_alike 22 = .ok (.iconst 1, 1) := by decide +kernel
theorem dX10_alike_23 : decode cX10_alike 23 = .ok (.goto 4, 3) := by decide +kernel
theorem dX10_alike_26 : decode cX10_alike 26 = .ok (.iconst 0, 1) := by decide +kernel
theorem dX10_alike_27 : decode cX10_alike 27 = .ok (.iconst 1, 1) := by decide +kernel
theorem dX10_alike_28 : decode cX10_alike 28 = .ok (.iconst 0, 1) := by decide +kernel
theorem dX10_alike_29 : decode cX10_alike 29 = .ok (.invokevirtual 177, 3) := by decide +kernel
theorem dX10_alike_32 : decode cX10_alike 32 = .ok (.ifCond .eq 5, 3) := by decide +kernel
theorem dX10_alike_35 : decode cX10_alike 35 = .ok (.iconst 0, 1) := by decide +kernel
theorem dX10_alike_36 : decode cX10_alike 36 = .ok (.ireturn, 1) := by decide +kernel
theorem dX10_alike_37 : decode cX10_alike 37 = .ok (.aload_n 0, 1) := by decide +kernel
theorem dX10_alike_38 : decode cX10_alike 38 = .ok (.iconst 0, 1) := by decide +kernel
theorem dX10_alike_39 : decode cX10_alike 39 = .ok (.iload_n 1, 1) := by decide +kernel
theorem dX10_alike_40 : decode cX10_alike 40 = .ok (.iconst 0, 1) := by decide +kernel
theorem dX10_alike_41 : decode cX10_alike 41 = .ok (.iload_n 2, 1) := by decide +kernel
theorem dX10_alike_42 : decode cX10_alike 42 = .ok (.invokevirtual 211, 3) := by decide +kernel
theorem dX10_alike_45 : decode cX10_alike 45 = .ok (.ireturn, 1) := by decide +kernel
theorem dX10_firm_0 : decode cX10_firm 0 = .ok (.aload_n 0, 1) := by decide +kernel
theorem dX10_firm_1 : decode cX10_firm 1 = .ok (.iconst 0, 1) := by decide +kernel
theorem dX10_firm_2 : decode cX10_firm 2 = .ok (.putfield 127, 3) := by decide +kernel
theorem dX10_firm_5 : decode cX10_firm 5 = .ok (.aload_n 0, 1) := by decide +kernel
theorem dX10_firm_6 : decode cX10_firm 6 = .ok (.iload_n 1, 1) := by decide +kernel
theorem dX10_firm_7 : decode cX10_firm 7 = .ok (.iconst 0, 1) := by decide +kernel
theorem dX10_firm_8 : decode cX10_firm 8 = .ok (.iconst 2, 1) := by decide +kernel
theorem dX10_firm_9 : decode cX10_firm 9 = .ok (.invokestatic 173, 3) := by decide +kernel
theorem dX10_firm_12 : decode cX10_firm 12 = .ok (.ifCond .ne 7, 3) := by decide +kernel
theorem dX10_firm_15 : decode cX10_firm 15 = .ok (.iconst 1, 1) := by decide +kernel
theorem dX10_firm_16 : decode cX10_firm 16 = .ok (.goto 4, 3) := by decide +kernel
theorem dX10_firm_19 : decode cX10_firm 19 = .ok (.iconst 0, 1) := by decide +kernel
theorem dX10_firm_20 : decode cX10_firm 20 = .ok (.iconst 1, 1) := by decide +kernel
theorem dX10_firm_21 : decode cX10_firm 21 = .ok (.iconst 1, 1) := by decide +kernel
theorem dX10_firm_22 : decode cX10_firm 22 = .ok (.invokevirtual 177, 3) := by decide +kernel
theorem dX10_firm_25 : decode cX10_firm 25 = .ok (.ifCond .eq 5, 3) := by decide +kernel
theorem dX10_firm_28 : decode cX10_firm 28 = .ok (.iconst 0, 1) := by decide +kernel
theorem dX10_firm_29 : decode cX10_firm 29 = .ok (.ireturn, 1) := by decide +kernel
theorem dX10_firm_30 : decode cX10_firm 30 = .ok (.iconst 0, 1) := by decide +kernel
theorem dX10_firm_31 : decode cX10_firm 31 = .ok (.istore_n 2, 1) := by decide +kernel
theorem dX10_firm_32 : decode cX10_firm 32 = .ok (.iconst 0, 1) := by decide +kernel
theorem dX10_firm_33 : decode cX10_firm 33 = .ok (.istore_n 3, 1) := by decide +kernel
theorem dX10_firm_34 : decode cX10_firm 34 = .ok (.iload_n 3, 1) := by decide +kernel
theorem dX10_firm_35 : decode cX10_firm 35 = .ok (.aload_n 0, 1) := by decide +kernel
theorem dX10_firm_36 : decode cX10_firm 36 = .ok (.getfield 54, 3) := by decide +kernel
theorem dX10_firm_39 : decode cX10_firm 39 = .ok (.iconst 0, 1) := by decide +kernel
theorem dX10_firm_40 : decode cX10_firm 40 = .ok (.iaload, 1) := by decide +kernel
theorem dX10_firm_41 : decode cX10_firm 41 = .ok (.if_icmp .ge 85, 3) := by decide +kernel
theorem dX10_firm_44 : decode cX10_firm 44 = .ok (.aload_n 0, 1) := by decide +kernel
theorem dX10_firm_45 : decode cX10_firm 45 = .ok (.getfield 45, 3) := by decide +kernel
theorem dX10_firm_48 : decode cX10_firm 48 = .ok (.iconst 0, 1) := by decide +kernel
theorem dX10_firm_49 : decode cX10_firm 49 = .ok (.aaload, 1) := by decide +kernel
theorem dX10_firm_50 : decode cX10_firm 50 = .ok (.iload_n 3, 1) := by decide +kernel
theorem dX10_firm_51 : decode cX10_firm 51 = .ok (.iaload, 1) := by decide +kernel
theorem dX10_firm_52 : decode cX10_firm 52 = .ok (.iconst 1, 1) := by decide +kernel
theorem dX10_firm_53 : decode cX10_firm 53 = .ok (.if_icmp .le 6, 3) := by decide +kernel
theorem dX10_firm_56 : decode cX10_firm 56 = .ok (.goto 64, 3) := by decide +kernel
theorem dX10_firm_59 : decode cX10_firm 59 = .ok (.aload_n 0, 1) := by decide +kernel
theorem dX10_firm_60 : decode cX10_firm 60 = .ok (.iconst 0, 1) := by decide +kernel
theorem dX10_firm_61 : decode cX10_firm 61 = .ok (.iload_n 3, 1) := by decide +kernel
theorem dX10_firm_62 : decode cX10_firm 62 = .ok (.iconst 3, 1) := by decide +kernel
theorem dX10_firm_63 : decode cX10_firm 63 = .ok (.invokevirtual 340, 3) := by decide +kernel
theorem dX10_firm_66 : decode cX10_firm 66 = .ok (.ifCond .le 7, 3) := by decide +kernel
theorem dX10_firm_69 : decode cX10_firm 69 = .ok (.iconst 1, 1) := by decide +kernel
theorem dX10_firm_70 : decode cX10_firm 70 = .ok (.goto 4, 3) := by decide +kernel
theorem dX10_firm_73 : decode cX10_firm 73 = .ok (.iconst 0, 1) := by decide +kernel
theorem dX10_firm_74 : decode cX10_firm 74 = .ok (.istore 4, 2) := by decide +kernel
theorem dX10_firm_76 : decode cX10_firm 76 = .ok (.aload_n 0, 1) := by decide +kernel
theorem dX10_firm_77 : decode cX10_firm 77 = .ok (.iconst 0, 1) := by decide +kernel
theorem dX10_firm_78 : decode cX10_firm 78 = .ok (.iload_n 3, 1) := by decide +kernel
theorem dX10_firm_79 : decode cX10_firm 79 = .ok (.iconst 4, 1) := by decide +kernel
theorem dX10_firm_80 : decode cX10_firm 80 = .ok (.invokevirtual 340, 3) := by decide +kernel
theorem dX10_firm_83 : decode cX10_firm 83 = .ok (.ifCond .le 7, 3) := by decide +kernel
theorem dX10_firm_86 : decode cX10_firm 86 = .ok (.iconst 1, 1) := by decide +kernel
theorem dX10_firm_87 : decode cX10_firm 87 = .ok (.goto 4, 3) := by decide +kernel
theorem dX10_firm_90 : decode cX10_firm 90 = .ok (.iconst 0, 1) := by decide +kernel
theorem dX10_firm_91 : decode cX10_firm 91 = .ok (.istore 5, 2) := by decide +kernel
theorem dX10_firm_93 : decode cX10_firm 93 = .ok (.iload_n 2, 1) := by decide +kernel
theorem dX10_firm_94 : decode cX10_firm 94 = .ok (.iload_n 1, 1) := by decide +kernel
theorem dX10_firm_95 : decode cX10_firm 95 = .ok (.iconst 1, 1) := by decide +kernel
theorem dX10_firm_96 : decode cX10_firm 96 = .ok (.if_icmp .eq 8, 3) := by decide +kernel
theorem dX10_firm_99 : decode cX10_firm 99 = .ok (.iload 4, 2) := by decide +kernel
theorem dX10_firm_101 : decode cX10_firm 101 = .ok (.ifCond .ne 16, 3) := by decide +kernel
theorem dX10_firm_104 : decode cX10_firm 104 = .ok (.iload_n 1, 1) := by decide +kernel
theorem dX10_firm_105 : decode cX10_firm 105 = .ok (.ifCond .eq 8, 3) := by decide +kernel
theorem dX10_firm_108 : decode cX10_firm 108 = .ok (.iload 5, 2) := by decide +kernel
theorem dX10_firm_110 : decode cX10_firm 110 = .ok (.ifCond .ne 7, 3) := by decide +kernel
theorem dX10_firm_113 : decode cX10_firm 113 = .ok (.iconst 1, 1) := by decide +kernel
theorem dX10_firm_114 : decode cX10_firm 114 = .ok (.goto 4, 3) := by decide +kernel
theorem dX10_firm_117 : decode cX10_firm 117 = .ok (.iconst 0, 1) := by decide +kernel
theorem dX10_firm_118 : decode cX10_firm 118 = .ok (.iadd, 1) := by decide +kernel
theorem dX10_firm_119 : decode cX10_firm 119 = .ok (.istore_n 2, 1) := by decide +kernel
theorem dX10_firm_120 : decode cX10_firm 120 = .ok (.iinc 3 1, 3) := by decide +kernel
theorem dX10_firm_123 : decode cX10_firm 123 = .ok (.goto (-89), 3) := by decide +kernel
theorem dX10_firm_126 : decode cX10_firm 126 = .ok (.iload_n 2, 1) := by decide +kernel
theorem dX10_firm_127 : decode cX10_firm 127 = .ok (.ireturn, 1) := by decide +kernel
theorem dX10_shortest_0 : decode cX10_shortest 0 = .ok (.aload_n 0, 1) := by decide +kernel
theorem dX10_shortest_1 : decode cX10_shortest 1 = .ok (.iconst 0, 1) := by decide +kernel
theorem dX10_shortest_2 : decode cX10_shortest 2 = .ok (.putfield 127, 3) := by decide +kernel
theorem dX10_shortest_5 : decode cX10_shortest 5 = .ok (.iconst 0, 1) := by decide +kernel
theorem dX10_shortest_6 : decode cX10_shortest 6 = .ok (.istore_n 1, 1) := by decide +kernel
theorem dX10_shortest_7 : decode cX10_shortest 7 = .ok (.iconst 0, 1) := by decide +kernel
theorem dX10_shortest_8 : decode cX10_shortest 8 = .ok (.istore_n 2, 1) := by decide +kernel
theorem dX10_shortest_9 : decode cX10_shortest 9 = .ok (.iload_n 2, 1) := by decide +kernel
theorem dX10_shortest_10 : decode cX10_shortest 10 = .ok (.aload_n 0, 1) := by decide +kernel
theorem dX10_shortest_11 : decode cX10_shortest 11 = .ok (.getfield 54, 3) := by decide +kernel
theorem dX10_shortest_14 : decode cX10_shortest 14 = .ok (.iconst 0, 1) := by decide +kernel
theorem dX10_shortest_15 : decode cX10_shortest 15 = .ok (.iaload, 1) := by decide +kernel
theorem dX10_shortest_16 : decode cX10_shortest 16 = .ok (.if_icmp .ge 39, 3) := by decide +kernel
theorem dX10_shortest_19 : decode cX10_shortest 19 = .ok (.iload_n 1, 1) := by decide +kernel
theorem dX10_shortest_20 : decode cX10_shortest 20 = .ok (.aload_n 0, 1) := by decide +kernel
theorem dX10_shortest_21 : decode cX10_shortest 21 = .ok (.getfield 45, 3) := by decide +kernel
theorem dX10_shortest_24 : decode cX10_shortest 24 = .ok (.iconst 0, 1) := by decide +kernel
theorem dX10_shortest_25 : decode cX10_shortest 25 = .ok (.aaload, 1) := by decide +kernel
theorem dX10_shortest_26 : decode cX10_shortest 26 = .ok (.iload_n 2, 1) := by decide +kernel
theorem dX10_shortest_27 : decode cX10_shortest 27 = .ok (.iaload, 1) := by decide +kernel
theorem dX10_shortest_28 : decode cX10_shortest 28 = .ok (.iconst 3, 1) := by decide +kernel
theorem dX10_shortest_29 : decode cX10_shortest 29 = .ok (.if_icmp .ge 17, 3) := by decide +kernel
theorem dX10_shortest_32 : decode cX10_shortest 32 = .ok (.aload_n 0, 1) := by decide +kernel
theorem dX10_shortest_33 : decode cX10_shortest 33 = .ok (.iconst 0, 1) := by decide +kernel
theorem dX10_shortest_34 : decode cX10_shortest 34 = .ok (.iload_n 2, 1) := by decide +kernel
theorem dX10_shortest_35 : decode cX10_shortest 35 = .ok (.iconst 3, 1) := by decide +kernel
theorem dX10_shortest_36 : decode cX10_shortest 36 = .ok (.invokevirtual 340, 3) := by decide +kernel
theorem dX10_shortest_39 : decode cX10_shortest 39 = .ok (.ifCond .ne 7, 3) := by decide +kernel
theorem dX10_shortest_42 : decode cX10_shortest 42 = .ok (.iconst 1, 1) := by decide +kernel
theorem dX10_shortest_43 : decode cX10_shortest 43 = .ok (.goto 4, 3) := by decide +kernel
theorem dX10_shortest_46 : decode cX10_shortest 46 = .ok (.iconst 0, 1) := by decide +kernel
theorem dX10_shortest_47 : decode cX10_shortest 47 = .ok (.iadd, 1) := by decide +kernel
theorem dX10_shortest_48 : decode cX10_shortest 48 = .ok (.istore_n 1, 1) := by decide +kernel
theorem dX10_shortest_49 : decode cX10_shortest 49 = .ok (.iinc 2 1, 3) := by decide +kernel
theorem dX10_shortest_52 : decode cX10_shortest 52 = .ok (.goto (-43), 3) := by decide +kernel
theorem dX10_shortest_55 : decode cX10_shortest 55 = .ok (.iload_n 1, 1) := by decide +kernel
theorem dX10_shortest_56 : decode cX10_shortest 56 = .ok (.ireturn, 1) := by decide +kernel
theorem dX10_step_0 : decode cX10_step 0 = .ok (.aload_n 0, 1) := by decide +kernel
theorem dX10_step_1 : decode cX10_step 1 = .ok (.iconst 0, 1) := by decide +kernel
theorem dX10_step_2 : decode cX10_step 2 = .ok (.putfield 127, 3) := by decide +kernel
theorem dX10_step_5 : decode cX10_step 5 = .ok (.aload_n 0, 1) := by decide +kernel
theorem dX10_step_6 : decode cX10_step 6 = .ok (.aload_n 0, 1) := by decide +kernel
theorem dX10_step_7 : decode cX10_step 7 = .ok (.iload_n 1, 1) := by decide +kernel
theorem dX10_step_8 : decode cX10_step 8 = .ok (.invokevirtual 346, 3) := by decide +kernel
theorem dX10_step_11 : decode cX10_step 11 = .ok (.ifCond .ne 7, 3) := by decide +kernel
theorem dX10_step_14 : decode cX10_step 14 = .ok (.iconst 1, 1) := by decide +kernel
theorem dX10_step_15 : decode cX10_step 15 = .ok (.goto 4, 3) := by decide +kernel
theorem dX10_step_18 : decode cX10_step 18 = .ok (.iconst 0, 1) := by decide +kernel
theorem dX10_step_19 : decode cX10_step 19 = .ok (.iconst 1, 1) := by decide +kernel
theorem dX10_step_20 : decode cX10_step 20 = .ok (.iconst 0, 1) := by decide +kernel
theorem dX10_step_21 : decode cX10_step 21 = .ok (.invokevirtual 177, 3) := by decide +kernel
theorem dX10_step_24 : decode cX10_step 24 = .ok (.ifCond .ne 26, 3) := by decide +kernel
theorem dX10_step_27 : decode cX10_step 27 = .ok (.aload_n 0, 1) := by decide +kernel
theorem dX10_step_28 : decode cX10_step 28 = .ok (.iload_n 3, 1) := by decide +kernel
theorem dX10_step_29 : decode cX10_step 29 = .ok (.iconst 0, 1) := by decide +kernel
theorem dX10_step_30 : decode cX10_step 30 = .ok (.iconst 2, 1) := by decide +kernel
theorem dX10_step_31 : decode cX10_step 31 = .ok (.invokestatic 173, 3) := by decide +kernel
theorem dX10_step_34 : decode cX10_step 34 = .ok (.ifCond .ne 7, 3) := by decide +kernel
theorem dX10_step_37 : decode cX10_step 37 = .ok (.iconst 1, 1) := by decide +kernel
theorem dX10_step_38 : decode cX10_step 38 = .ok (.goto 4, 3) := by decide +kernel
theorem dX10_step_41 : decode cX10_step 41 = .ok (.iconst 0, 1) := by decide +kernel
theorem dX10_step_42 : decode cX10_step 42 = .ok (.iconst 2, 1) := by decide +kernel
theorem dX10_step_43 : decode cX10_step 43 = .ok (.iconst 1, 1) := by decide +kernel
theorem dX10_step_44 : decode cX10_step 44 = .ok (.invokevirtual 177, 3) := by decide +kernel
theorem dX10_step_47 : decode cX10_step 47 = .ok (.ifCond .eq 5, 3) := by decide +kernel
theorem dX10_step_50 : decode cX10_step 50 = .ok (.iconst 0, 1) := by decide +kernel
theorem dX10_step_51 : decode cX10_step 51 = .ok (.ireturn, 1) := by decide +kernel
theorem dX10_step_52 : decode cX10_step 52 = .ok (.iload_n 2, 1) := by decide +kernel
theorem dX10_step_53 : decode cX10_step 53 = .ok (.iconst 0, 1) := by decide +kernel
theorem dX10_step_54 : decode cX10_step 54 = .ok (.aload_n 0, 1) := by decide +kernel
theorem dX10_step_55 : decode cX10_step 55 = .ok (.getfield 42, 3) := by decide +kernel
theorem dX10_step_58 : decode cX10_step 58 = .ok (.iload_n 1, 1) := by decide +kernel
theorem dX10_step_59 : decode cX10_step 59 = .ok (.iaload, 1) := by decide +kernel
theorem dX10_step_60 : decode cX10_step 60 = .ok (.iconst 1, 1) := by decide +kernel
theorem dX10_step_61 : decode cX10_step 61 = .ok (.isub, 1) := by decide +kernel
theorem dX10_step_62 : decode cX10_step 62 = .ok (.invokestatic 173, 3) := by decide +kernel
theorem dX10_step_65 : decode cX10_step 65 = .ok (.ifCond .eq 16, 3) := by decide +kernel
theorem dX10_step_68 : decode cX10_step 68 = .ok (.aload_n 0, 1) := by decide +kernel
theorem dX10_step_69 : decode cX10_step 69 = .ok (.getfield 39, 3) := by decide +kernel
theorem dX10_step_72 : decode cX10_step 72 = .ok (.iload_n 1, 1) := by decide +kernel
theorem dX10_step_73 : decode cX10_step 73 = .ok (.aaload, 1) := by decide +kernel
theorem dX10_step_74 : decode cX10_step 74 = .ok (.iload_n 2, 1) := by decide +kernel
theorem dX10_step_75 : decode cX10_step 75 = .ok (.aaload, 1) := by decide +kernel
theorem dX10_step_76 : decode cX10_step 76 = .ok (.iload_n 3, 1) := by decide +kernel
theorem dX10_step_77 : decode cX10_step 77 = .ok (.iaload, 1) := by decide +kernel
theorem dX10_step_78 : decode cX10_step 78 = .ok (.goto 4, 3) := by decide +kernel
theorem dX10_step_81 : decode cX10_step 81 = .ok (.iconst (-1), 1) := by decide +kernel
theorem dX10_step_82 : decode cX10_step 82 = .ok (.ireturn, 1) := by decide +kernel
theorem dX10_told_0 : decode cX10_told 0 = .ok (.aload_n 0, 1) := by decide +kernel
theorem dX10_told_1 : decode cX10_told 1 = .ok (.iconst 0, 1) := by decide +kernel
theorem dX10_told_2 : decode cX10_told 2 = .ok (.putfield 127, 3) := by decide +kernel
theorem dX10_told_5 : decode cX10_told 5 = .ok (.aload_n 0, 1) := by decide +kernel
theorem dX10_told_6 : decode cX10_told 6 = .ok (.iload_n 1, 1) := by decide +kernel
theorem dX10_told_7 : decode cX10_told 7 = .ok (.iconst 0, 1) := by decide +kernel
theorem dX10_told_8 : decode cX10_told 8 = .ok (.bipush 9, 2) := by decide +kernel
theorem dX10_told_10 : decode cX10_told 10 = .ok (.invokestatic 173, 3) := by decide +kernel
theorem dX10_told_13 : decode cX10_told 13 = .ok (.ifCond .ne 7, 3) := by decide +kernel
theorem dX10_told_16 : decode cX10_told 16 = .ok (.iconst 1, 1) := by decide +kernel
theorem dX10_told_17 : decode cX10_told 17 = .ok (.goto 4, 3) := by decide +kernel
theorem dX10_told_20 : decode cX10_told 20 = .ok (.iconst 0, 1) := by decide +kernel
theorem dX10_told_21 : decode cX10_told 21 = .ok (.iconst 1, 1) := by decide +kernel
theorem dX10_told_22 : decode cX10_told 22 = .ok (.iconst 1, 1) := by decide +kernel
theorem dX10_told_23 : decode cX10_told 23 = .ok (.invokevirtual 177, 3) := by decide +kernel
theorem dX10_told_26 : decode cX10_told 26 = .ok (.ifCond .eq 5, 3) := by decide +kernel
theorem dX10_told_29 : decode cX10_told 29 = .ok (.iconst 0, 1) := by decide +kernel
theorem dX10_told_30 : decode cX10_told 30 = .ok (.ireturn, 1) := by decide +kernel
theorem dX10_told_31 : decode cX10_told 31 = .ok (.iload_n 1, 1) := by decide +kernel
theorem dX10_told_32 : decode cX10_told 32 = .ok (.tableswitch 94 0 8 #[52, 57, 62, 69, 75, 75, 75, 84, 89], 52) := by decide +kernel
theorem dX10_told_84 : decode cX10_told 84 = .ok (.aload_n 0, 1) := by decide +kernel
theorem dX10_told_85 : decode cX10_told 85 = .ok (.getfield 181, 3) := by decide +kernel
theorem dX10_told_88 : decode cX10_told 88 = .ok (.ireturn, 1) := by decide +kernel
theorem dX10_told_89 : decode cX10_told 89 = .ok (.aload_n 0, 1) := by decide +kernel
theorem dX10_told_90 : decode cX10_told 90 = .ok (.getfield 170, 3) := by decide +kernel
theorem dX10_told_93 : decode cX10_told 93 = .ok (.ireturn, 1) := by decide +kernel
theorem dX10_told_94 : decode cX10_told 94 = .ok (.aload_n 0, 1) := by decide +kernel
theorem dX10_told_95 : decode cX10_told 95 = .ok (.getfield 54, 3) := by decide +kernel
theorem dX10_told_98 : decode cX10_told 98 = .ok (.iconst 0, 1) := by decide +kernel
theorem dX10_told_99 : decode cX10_told 99 = .ok (.iaload, 1) := by decide +kernel
theorem dX10_told_100 : decode cX10_told 100 = .ok (.ireturn, 1) := by decide +kernel
theorem dX10_told_101 : decode cX10_told 101 = .ok (.aload_n 0, 1) := by decide +kernel
theorem dX10_told_102 : decode cX10_told 102 = .ok (.iconst 0, 1) := by decide +kernel
theorem dX10_told_103 : decode cX10_told 103 = .ok (.invokevirtual 313, 3) := by decide +kernel
theorem dX10_told_106 : decode cX10_told 106 = .ok (.ireturn, 1) := by decide +kernel
theorem dX10_told_107 : decode cX10_told 107 = .ok (.aload_n 0, 1) := by decide +kernel
theorem dX10_told_108 : decode cX10_told 108 = .ok (.iconst 0, 1) := by decide +kernel
theorem dX10_told_109 : decode cX10_told 109 = .ok (.iload_n 1, 1) := by decide +kernel
theorem dX10_told_110 : decode cX10_told 110 = .ok (.iconst 2, 1) := by decide +kernel
theorem dX10_told_111 : decode cX10_told 111 = .ok (.isub, 1) := by decide +kernel
theorem dX10_told_112 : decode cX10_told 112 = .ok (.invokevirtual 337, 3) := by decide +kernel
theorem dX10_told_115 : decode cX10_told 115 = .ok (.ireturn, 1) := by decide +kernel
theorem dX10_told_116 : decode cX10_told 116 = .ok (.aload_n 0, 1) := by decide +kernel
theorem dX10_told_117 : decode cX10_told 117 = .ok (.getfield 319, 3) := by decide +kernel
theorem dX10_told_120 : decode cX10_told 120 = .ok (.ireturn, 1) := by decide +kernel
theorem dX10_told_121 : decode cX10_told 121 = .ok (.aload_n 0, 1) := by decide +kernel
theorem dX10_told_122 : decode cX10_told 122 = .ok (.getfield 331, 3) := by decide +kernel
theorem dX10_told_125 : decode cX10_told 125 = .ok (.ireturn, 1) := by decide +kernel
theorem dX10_told_126 : decode cX10_told 126 = .ok (.aload_n 0, 1) := by decide +kernel
theorem dX10_told_127 : decode cX10_told 127 = .ok (.getfield 130, 3) := by decide +kernel
theorem dX10_told_130 : decode cX10_told 130 = .ok (.ireturn, 1) := by decide +kernel
set_option maxHeartbeats 4000000 in
set_option maxRecDepth 100000 in
theorem m_step (l : Launch) (dC : Nat → ClassId) (dI : Nat → Nat → Nat) (cI cZ cII cIII : ClassId) (h0 sz : Nat) (μ : va_M) (pp : Int) (k : Int) (w : Int) (hQ : RQ μ) (hp : inR pp) (hkR : inR k) (hw9 : inR w) : Met l yX10_step (Cond.code yX10_step cX10_step 4 (some .int) :: wsG) ({ frames := 3, cells := 0, slots := 0, locals := 57 } : Room) (va_Pc [.ref h0, .int (iZ (pp)), .int (iZ (k)), .int (iZ (w))] (fun U => U.heap.size = sz ∧ va_P (dC, dI) vwCl (fw (mE cI cZ cII cIII h0) h0 6325 μ) U.heap ∧ va_K (dC, dI) vwCl (mT cI cZ cII cIII) U)) (va_Qi (fun (r9 : Int32) (u : va_M × Int) => r9 = iZ u.2 ∧ (fun (u : va_M) (r : Int) => fr PS μ u ∧ (u 0 0 = 0 ∨ u 0 0 = 1 ∨ u 0 0 = 2)) u.1 u.2) (fun u t => va_P (dC, dI) vwCl (fw (mE cI cZ cII cIII h0) h0 6325 u.1) t.heap ∧ va_K (dC, dI) vwCl (mT cI cZ cII cIII) t) (fA h0 6325 sz)) 0 0 (fA h0 6325 sz) := by
  refine Met.ofW (cc := cX10_step) (maxL := 4) (ret := (some .int)) (by decide) rfl ?_
  intro p e s m args below meth c s₁ B hml hv
  obtain ⟨rfl, hsz, hP, hK⟩ := hv
  have hx := B.exec
  have hb := B.bytes
  have hr := B.returns
  have hts : ∀ w ∈ wsG, w.before _ s = true := hG_of (atoms_spec (ws := (Cond.code yX10_step cX10_step 4 (some .int) :: wsG)) B.pre)
  have hown : s.vm.findClass RX10 = some m.cls := findClass_of_methodNamed B.named
  have hlocks := B.notSynchronized
  subst hsz
  have hS : va_S (fA h0 6325 s.heap.size) s.heap s.heap [] := va_S.rf
  have hl := lv_entry ([.ref h0, .int (iZ (pp)), .int (iZ (k)), .int (iZ (w))]) (n := 4) (Nat.le_of_ble_eq_true rfl)
  rw [lg_entry_eq]
  generalize (lg_sl ([.ref h0, .int (iZ (pp)), .int (iZ (k)), .int (iZ (w))]) ++ List.replicate (4 - (lg_sl ([.ref h0, .int (iZ (pp)), .int (iZ (k)), .int (iZ (w))])).length) Slot.unset).toArray = ls at hl ⊢
  have hl : lv_has ls 4 [(0, .ref h0), (1, .int (iZ (pp))), (2, .int (iZ (k))), (3, .int (iZ (w)))] := hl
  refine lv_aload_n hx hb dX10_step_0 rfl (lv_at hl 0 rfl) ?_
  refine lv_iconst (v := iZ 0) hx hb dX10_step_1 rfl ?_
  refine fz_put (D := (dC, dI)) (ci := 10) (ty := .int) (z := 0) (C := RX10) (T := TX10) (N := 53) hx hb hts inG10 tyX10 tyX10_ok nmX10 hown hK hP fA_in hS (k := 0) (by decide) (F := mF h0) mE_obj rfl 0 (by decide) (hts _ k1166) (fun _ h9 => h9) rfl (by decide +kernel) rfl rfl (fun _ => Nat.le_of_ble_eq_true rfl) (fun _ _ => rfl) dX10_step_2 (fun H locs hP hS => ?_)
  obtain ⟨μ1, eμ1⟩ : ∃ x : va_M, x = uz μ 0 0 (0) := ⟨_, rfl⟩
  rw [← eμ1] at hP
  have hfr : fr PS μ μ1 := by rw [eμ1]; exact fr_uz fr_rfl (by unfold PS; omega)
  have ht0 : μ1 0 0 = 0 := by rw [eμ1, uz_s]
  have e10 := hfr 0 10 (PS_n (by omega))
  have e9 := hfr 0 9 (PS_n (by omega))
  have e71 := hfr 719 0 (PS_n (by omega))
  have hQ1 := RQ_fr hQ hfr
  have hQc := hQ
  obtain ⟨f10, ⟨fT, fTb, fTw⟩, fS3, fPg, fw9, fwB, fwT⟩ := hQc
  obtain ⟨g10, ⟨gT, gTb, gTw⟩, gS3, gPg, gw, gwB, gwT⟩ := hQ1
  have gtk := TR_tok gwT gwB.1 gwB.2.1
  have gt1 := gtk.1
  have gt2 := gtk.2.1
  refine lv_aload_n hx hb dX10_step_5 rfl (lv_at hl 0 rfl) ?_
  refine lv_aload_n hx hb dX10_step_6 rfl (lv_at hl 0 rfl) ?_
  refine lv_iload_n hx hb dX10_step_7 rfl (lv_at hl 1 rfl) ?_
  refine va_calli (va_runV (As := [.int (iZ (pp))]) (rest := [.ref h0]) ⟨hx, hb, hml, hown, hts⟩ (m_isPage l dC dI cI cZ cII cIII h0 H.size μ1 (pp) (by first | assumption | omega | exact ⟨by omega, by omega⟩) (by first | assumption | omega | exact ⟨by omega, by omega⟩)) (cwV 1 hts (gV_G k1584 k1586 ks_yX10_isPage k13 k1587) rfl rfl rfl (by decide +kernel) ⟨Nat.le_of_ble_eq_true rfl, Nat.le_of_ble_eq_true rfl⟩) ⟨fun a U g mk q => by obtain ⟨q0, q1, qP, qK⟩ := q; exact ⟨q0, q1, qP, va_K.moved (u := U) (U := U.calling g mk a) (Vm.Alike.refl U.vm) qK⟩, va_recv hK hP (ci := 10) (q0 := 0) rfl ((fw_get (by decide)).trans (by rw [mE_obj]; rfl)), fun U hU hW => ⟨rfl, by rw [hU], by rw [hU]; exact hP, va_K.moved hW.alike hK⟩⟩ rfl rfl hl.1 rfl (lv_room (Nat.le_of_ble_eq_true rfl)) dX10_step_8 ⟨Nat.le_of_ble_eq_true rfl, Nat.le_of_ble_eq_true rfl⟩) hS (fun q _ h => fA_le hS.1 q h) (fA_le hS.1) (fun r9 u9 t9 H1 locs ht9 hvm9 hw9 hB9 hz9 hk9 hS => ?_)
  obtain ⟨μ2, r3⟩ := u9
  obtain ⟨hP, -⟩ := hB9
  rw [ht9] at hP
  generalize H1 = H at hP hS ⊢
  obtain ⟨e9, hw9⟩ := hw9
  have e9 : r9 = iZ r3 := e9
  subst e9
  simp only at hP hw9
  have hμ2 := hw9; clear hw9
  rw [hμ2.1] at hP; have hμ2 := hμ2.2
  have hip := hμ2
  have hip2 := if_01 hμ2
  refine fz_if_ne (tgt := 18) (by constructor <;> omega) hx hb dX10_step_11 (by decide) (fun c11_ => ?_) (fun c11_ => ?_)
  · have hpp := if_get hip (by omega)
    refine lv_iconst (v := iZ 0) hx hb dX10_step_18 rfl ?_
    refine lv_iconst (v := iZ 1) hx hb dX10_step_19 rfl ?_
    refine lv_iconst (v := iZ 0) hx hb dX10_step_20 rfl ?_
    refine va_calli (va_runV (As := [.int (iZ (0)), .int (iZ (1)), .int (iZ (0))]) (rest := []) ⟨hx, hb, hml, hown, hts⟩ (m_bad2 l dC dI cI cZ cII cIII h0 H.size μ1 (0) (1) (0) (by first | assumption | omega | exact ⟨by omega, by omega⟩) (by first | assumption | omega | exact ⟨by omega, by omega⟩) (by first | assumption | omega | exact ⟨by omega, by omega⟩) (by first | assumption | omega | exact ⟨by omega, by omega⟩)) (cwV 3 hts (gV_G k1338 k1340 ks_yX10_bad k13 k1341) rfl rfl rfl (by decide +kernel) ⟨Nat.le_of_ble_eq_true rfl, Nat.le_of_ble_eq_true rfl⟩) ⟨fun a U g mk q => by obtain ⟨q0, q1, qP, qK⟩ := q; exact ⟨q0, q1, qP, va_K.moved (u := U) (U := U.calling g mk a) (Vm.Alike.refl U.vm) qK⟩, va_recv hK hP (ci := 10) (q0 := 0) rfl ((fw_get (by decide)).trans (by rw [mE_obj]; rfl)), fun U hU hW => ⟨rfl, by rw [hU], by rw [hU]; exact hP, va_K.moved hW.alike hK⟩⟩ rfl rfl hl.1 rfl (lv_room (Nat.le_of_ble_eq_true rfl)) dX10_step_21 ⟨Nat.le_of_ble_eq_true rfl, Nat.le_of_ble_eq_true rfl⟩) hS (fun q _ h => fA_le hS.1 q h) (fA_le hS.1) (fun r9 u9 t9 H1 locs ht9 hvm9 hw9 hB9 hz9 hk9 hS => ?_)
    obtain ⟨μ4, r5⟩ := u9
    obtain ⟨hP, -⟩ := hB9
    rw [ht9] at hP
    generalize H1 = H at hP hS ⊢
    obtain ⟨e9, hw9⟩ := hw9
    have e9 : r9 = iZ r5 := e9
    subst e9
    simp only at hP hw9
    have hμ4 := hw9; clear hw9
    have hfr := fr_trans hfr (badP_fr hμ4)
    have hrb := badP_r hμ4
    obtain rfl : r5 = 0 := by omega
    refine fz_if_ne (tgt := 50) (by decide) hx hb dX10_step_24 (by decide) (fun h9 => absurd h9 (by decide)) (fun c24_ => ?_)
    refine lv_aload_n hx hb dX10_step_27 rfl (lv_at hl 0 rfl) ?_
    refine lv_iload_n hx hb dX10_step_28 rfl (lv_at hl 3 rfl) ?_
    refine lv_iconst (v := iZ 0) hx hb dX10_step_29 rfl ?_
    refine lv_iconst (v := iZ 2) hx hb dX10_step_30 rfl ?_
    refine va_calli (va_runS (As := [.int (iZ (w)), .int (iZ (0)), .int (iZ (2))]) (rest := [.ref h0]) ⟨hx, hb, hml, hown, hts⟩ (m_in l dC dI cI cZ cII cIII h0 H.size μ4 (w) (0) (2) (by first | assumption | omega | exact ⟨by omega, by omega⟩) (by first | assumption | omega | exact ⟨by omega, by omega⟩) (by first | assumption | omega | exact ⟨by omega, by omega⟩)) (cwS 3 hts (gS_G k1335 k1336 k13 k1337) rfl rfl rfl (by decide +kernel) ⟨Nat.le_of_ble_eq_true rfl, Nat.le_of_ble_eq_true rfl⟩) ⟨fun a U g mk q => by obtain ⟨q0, q1, qP, qK⟩ := q; exact ⟨q0, q1, qP, va_K.moved (u := U) (U := U.calling g mk a) (Vm.Alike.refl U.vm) qK⟩, fun U hU hW => ⟨rfl, by rw [hU], by rw [hU]; exact hP, va_K.moved hW.alike hK⟩⟩ rfl rfl hl.1 rfl (lv_room (Nat.le_of_ble_eq_true rfl)) dX10_step_31 ⟨Nat.le_of_ble_eq_true rfl, Nat.le_of_ble_eq_true rfl⟩) hS (fun q _ h => fA_le hS.1 q h) (fA_le hS.1) (fun r9 u9 t9 H1 locs ht9 hvm9 hw9 hB9 hz9 hk9 hS => ?_)
    obtain ⟨μ6, r7⟩ := u9
    obtain ⟨hP, -⟩ := hB9
    rw [ht9] at hP
    generalize H1 = H at hP hS ⊢
    obtain ⟨e9, hw9⟩ := hw9
    have e9 : r9 = iZ r7 := e9
    subst e9
    simp only at hP hw9
    have hμ6 := hw9; clear hw9
    rw [hμ6.1] at hP; have hμ6 := hμ6.2
    have hw3 := hμ6
    have hw2_ := if_01 hμ6
    refine fz_if_ne (tgt := 41) (by constructor <;> omega) hx hb dX10_step_34 (by decide) (fun c34_ => ?_) (fun c34_ => ?_)
    · have hw4 := if_get hw3 (by omega)
      refine lv_iconst (v := iZ 0) hx hb dX10_step_41 rfl ?_
      refine lv_iconst (v := iZ 2) hx hb dX10_step_42 rfl ?_
      refine lv_iconst (v := iZ 1) hx hb dX10_step_43 rfl ?_
      refine va_calli (va_runV (As := [.int (iZ (0)), .int (iZ (2)), .int (iZ (1))]) (rest := []) ⟨hx, hb, hml, hown, hts⟩ (m_bad2 l dC dI cI cZ cII cIII h0 H.size μ4 (0) (2) (1) (by first | assumption | omega | exact ⟨by omega, by omega⟩) (by first | assumption | omega | exact ⟨by omega, by omega⟩) (by first | assumption | omega | exact ⟨by omega, by omega⟩) (by first | assumption | omega | exact ⟨by omega, by omega⟩)) (cwV 3 hts (gV_G k1338 k1340 ks_yX10_bad k13 k1341) rfl rfl rfl (by decide +kernel) ⟨Nat.le_of_ble_eq_true rfl, Nat.le_of_ble_eq_true rfl⟩) ⟨fun a U g mk q => by obtain ⟨q0, q1, qP, qK⟩ := q; exact ⟨q0, q1, qP, va_K.moved (u := U) (U := U.calling g mk a) (Vm.Alike.refl U.vm) qK⟩, va_recv hK hP (ci := 10) (q0 := 0) rfl ((fw_get (by decide)).trans (by rw [mE_obj]; rfl)), fun U hU hW => ⟨rfl, by rw [hU], by rw [hU]; exact hP, va_K.moved hW.alike hK⟩⟩ rfl rfl hl.1 rfl (lv_room (Nat.le_of_ble_eq_true rfl)) dX10_step_44 ⟨Nat.le_of_ble_eq_true rfl, Nat.le_of_ble_eq_true rfl⟩) hS (fun q _ h => fA_le hS.1 q h) (fA_le hS.1) (fun r9 u9 t9 H1 locs ht9 hvm9 hw9 hB9 hz9 hk9 hS => ?_)
      obtain ⟨μ8, r10⟩ := u9
      obtain ⟨hP, -⟩ := hB9
      rw [ht9] at hP
      generalize H1 = H at hP hS ⊢
      obtain ⟨e9, hw9⟩ := hw9
      have e9 : r9 = iZ r10 := e9
      subst e9
      simp only at hP hw9
      have hμ8 := hw9; clear hw9
      have hfr := fr_trans hfr (badP_fr hμ8)
      have hrb := badP_r hμ8
      obtain rfl : r10 = 0 := by omega
      refine fz_if_eq (tgt := 52) (by decide) hx hb dX10_step_47 (by decide) (fun c47_ => ?_) (fun h9 => absurd h9 (by decide))
      have hQ2 := RQ_fr hQ hfr
      obtain ⟨k10, ⟨kT, kTb, kTw⟩, kS3, kPg, kw, kwB, kwT⟩ := hQ2
      have e10k := hfr 0 10 (PS_n (by omega))
      have e9k := hfr 0 9 (PS_n (by omega))
      have e71k := hfr 719 0 (PS_n (by omega))
      have ktk := TR_tok kwT kwB.1 kwB.2.1
      have kt1 := ktk.1
      have kt2 := ktk.2.1
      obtain ⟨p1, p2, p3, pw, pw1, pw2, pw3⟩ := kPg pp.toNat (by omega)
      have pwb := rPage_b pw1
      have ptk : tok μ8 (17 + pp).toNat := by rw [show (17 + pp).toNat = 17 + pp.toNat by omega]; exact TR_tok pw3 pw1.1 (by omega)
      have pt1 := ptk.1
      have pt2 := ptk.2.1
      have pTR : TR μ8 (17 + pp).toNat pw := by rw [show (17 + pp).toNat = 17 + pp.toNat by omega]; exact pw3
      have e505 := hfr 505 pp.toNat (PS_n (by omega))
      refine lv_iload_n hx hb dX10_step_52 rfl (lv_at hl 2 rfl) ?_
      refine lv_iconst (v := iZ 0) hx hb dX10_step_53 rfl ?_
      refine lv_aload_n hx hb dX10_step_54 rfl (lv_at hl 0 rfl) ?_
      refine fz_get (D := (dC, dI)) (ci := 10) (v := .ref (h0 + 505)) (C := RX10) (T := TX10) (N := 53) hx hb hts inG10 hown hK hP (k := 0) (by decide) (F := mF h0) mE_obj rfl 17 (by decide) (hts _ k1183) (fun _ h9 => h9) rfl dX10_step_55 ?_
      refine lv_iload_n hx hb dX10_step_58 rfl (lv_at hl 1 rfl) ?_
      refine fz_ld (k := 505) (n := 8) hx hb hK hP 0 (by decide) mE_folds rfl ⟨by omega, by omega⟩ (by decide) dX10_step_59 ?_
      refine lv_iconst (v := iZ 1) hx hb dX10_step_60 rfl ?_
      refine lv_isub hx hb dX10_step_61 ?_
      refine lv_topi (fun x9 ex9 => ?_)
      obtain rfl : x9 = iZ ((μ8 505 (pp).toNat) - 1) := ex9.trans (iZ_sub _ _)
      refine va_calli (va_runS (As := [.int (iZ (k)), .int (iZ (0)), .int (iZ ((μ8 505 (pp).toNat) - 1))]) (rest := []) ⟨hx, hb, hml, hown, hts⟩ (m_in l dC dI cI cZ cII cIII h0 H.size μ8 (k) (0) ((μ8 505 (pp).toNat) - 1) (by first | assumption | omega | exact ⟨by omega, by omega⟩) (by first | assumption | omega | exact ⟨by omega, by omega⟩) (by first | assumption | omega | exact ⟨by omega, by omega⟩)) (cwS 3 hts (gS_G k1335 k1336 k13 k1337) rfl rfl rfl (by decide +kernel) ⟨Nat.le_of_ble_eq_true rfl, Nat.le_of_ble_eq_true rfl⟩) ⟨fun a U g mk q => by obtain ⟨q0, q1, qP, qK⟩ := q; exact ⟨q0, q1, qP, va_K.moved (u := U) (U := U.calling g mk a) (Vm.Alike.refl U.vm) qK⟩, fun U hU hW => ⟨rfl, by rw [hU], by rw [hU]; exact hP, va_K.moved hW.alike hK⟩⟩ rfl rfl hl.1 rfl (lv_room (Nat.le_of_ble_eq_true rfl)) dX10_step_62 ⟨Nat.le_of_ble_eq_true rfl, Nat.le_of_ble_eq_true rfl⟩) hS (fun q _ h => fA_le hS.1 q h) (fA_le hS.1) (fun r9 u9 t9 H1 locs ht9 hvm9 hw9 hB9 hz9 hk9 hS => ?_)
      obtain ⟨μ11, r12⟩ := u9
      obtain ⟨hP, -⟩ := hB9
      rw [ht9] at hP
      generalize H1 = H at hP hS ⊢
      obtain ⟨e9, hw9⟩ := hw9
      have e9 : r9 = iZ r12 := e9
      subst e9
      simp only at hP hw9
      have hμ11 := hw9; clear hw9
      rw [hμ11.1] at hP; have hμ11 := hμ11.2
      have hin := hμ11
      have hin2 := if_01 hμ11
      refine fz_if_eq (tgt := 81) (by constructor <;> omega) hx hb dX10_step_65 (by decide) (fun c65_ => ?_) (fun c65_ => ?_)
      · refine lv_iconst (v := iZ (-1)) hx hb dX10_step_81 rfl ?_
        exact W.iret (v := iZ ((-1))) hx hb hr (fun t9 ht9 hW9 => ⟨⟨iZ ((-1)), (μ8, (-1)), rfl, ⟨rfl, (by
                        dsimp only
                        exact ⟨hfr, by omega⟩)⟩, by rw [ht9]; exact hP, va_K.moved hW9.alike hK⟩, hS.F ht9⟩) hS.2.2 dX10_step_82
      · have hkk := if_get hin (by omega)
        refine lv_aload_n hx hb dX10_step_68 rfl (lv_at hl 0 rfl) ?_
        refine fz_get (D := (dC, dI)) (ci := 10) (v := .ref (h0 + 16)) (C := RX10) (T := TX10) (N := 53) hx hb hts inG10 hown hK hP (k := 0) (by decide) (F := mF h0) mE_obj rfl 16 (by decide) (hts _ k1182) (fun _ h9 => h9) rfl dX10_step_69 ?_
        refine lv_iload_n hx hb dX10_step_72 rfl (lv_at hl 1 rfl) ?_
        refine fz_ald (k := 16) (n := 8) (k2 := (17 + (pp).toNat * 61)) hx hb hK hP 3 rfl (by decide) mE_fold rfl ⟨by omega, by omega⟩ (by decide) (if_pos (by omega)) dX10_step_73 ?_
        refine lv_iload_n hx hb dX10_step_74 rfl (lv_at hl 2 rfl) ?_
        refine fz_ald (k := (17 + (pp).toNat * 61)) (n := 60) (k2 := (17 + (pp).toNat * 61 + 1 + (k).toNat)) hx hb hK hP 2 rfl (by omega) (mE_foldM (by omega)) rfl ⟨by omega, by omega⟩ (by decide) (if_pos (by omega)) dX10_step_75 ?_
        refine lv_iload_n hx hb dX10_step_76 rfl (lv_at hl 3 rfl) ?_
        refine fz_ld (k := (17 + (pp).toNat * 61 + 1 + (k).toNat)) (n := 3) hx hb hK hP 0 (by omega) (mE_foldR (by omega) (by omega)) rfl ⟨by omega, by omega⟩ (by decide) dX10_step_77 ?_
        refine lv_goto (tgt := 82) hx hb dX10_step_78 (by decide) ?_
        exact W.iret (v := iZ (μ8 (17 + (pp).toNat * 61 + 1 + (k).toNat) (w).toNat)) hx hb hr (fun t9 ht9 hW9 => ⟨⟨iZ (μ8 (17 + (pp).toNat * 61 + 1 + (k).toNat) (w).toNat), (μ8, μ8 (17 + (pp).toNat * 61 + 1 + (k).toNat) (w).toNat), rfl, ⟨rfl, (by
                        dsimp only
                        exact ⟨hfr, by omega⟩)⟩, by rw [ht9]; exact hP, va_K.moved hW9.alike hK⟩, hS.F ht9⟩) hS.2.2 dX10_step_82
    · refine lv_iconst (v := iZ 1) hx hb dX10_step_37 rfl ?_
      refine lv_goto (tgt := 42) hx hb dX10_step_38 (by decide) ?_
      refine lv_iconst (v := iZ 2) hx hb dX10_step_42 rfl ?_
      refine lv_iconst (v := iZ 1) hx hb dX10_step_43 rfl ?_
      refine va_calli (va_runV (As := [.int (iZ (1)), .int (iZ (2)), .int (iZ (1))]) (rest := []) ⟨hx, hb, hml, hown, hts⟩ (m_bad2 l dC dI cI cZ cII cIII h0 H.size μ4 (1) (2) (1) (by first | assumption | omega | exact ⟨by omega, by omega⟩) (by first | assumption | omega | exact ⟨by omega, by omega⟩) (by first | assumption | omega | exact ⟨by omega, by omega⟩) (by first | assumption | omega | exact ⟨by omega, by omega⟩)) (cwV 3 hts (gV_G k1338 k1340 ks_yX10_bad k13 k1341) rfl rfl rfl (by decide +kernel) ⟨Nat.le_of_ble_eq_true rfl, Nat.le_of_ble_eq_true rfl⟩) ⟨fun a U g mk q => by obtain ⟨q0, q1, qP, qK⟩ := q; exact ⟨q0, q1, qP, va_K.moved (u := U) (U := U.calling g mk a) (Vm.Alike.refl U.vm) qK⟩, va_recv hK hP (ci := 10) (q0 := 0) rfl ((fw_get (by decide)).trans (by rw [mE_obj]; rfl)), fun U hU hW => ⟨rfl, by rw [hU], by rw [hU]; exact hP, va_K.moved hW.alike hK⟩⟩ rfl rfl hl.1 rfl (lv_room (Nat.le_of_ble_eq_true rfl)) dX10_step_44 ⟨Nat.le_of_ble_eq_true rfl, Nat.le_of_ble_eq_true rfl⟩) hS (fun q _ h => fA_le hS.1 q h) (fA_le hS.1) (fun r9 u9 t9 H1 locs ht9 hvm9 hw9 hB9 hz9 hk9 hS => ?_)
      obtain ⟨μ13, r14⟩ := u9
      obtain ⟨hP, -⟩ := hB9
      rw [ht9] at hP
      generalize H1 = H at hP hS ⊢
      obtain ⟨e9, hw9⟩ := hw9
      have e9 : r9 = iZ r14 := e9
      subst e9
      simp only at hP hw9
      have hμ13 := hw9; clear hw9
      have hfr := fr_trans hfr (badP_fr hμ13)
      have hrb := badP_r hμ13
      obtain rfl : r14 = 1 := by omega
      refine fz_if_eq (tgt := 52) (by decide) hx hb dX10_step_47 (by decide) (fun h9 => absurd h9 (by decide)) (fun c47_ => ?_)
      refine lv_iconst (v := iZ 0) hx hb dX10_step_50 rfl ?_
      exact W.iret (v := iZ (0)) hx hb hr (fun t9 ht9 hW9 => ⟨⟨iZ (0), (μ13, 0), rfl, ⟨rfl, (by
                    dsimp only
                    exact ⟨hfr, by omega⟩)⟩, by rw [ht9]; exact hP, va_K.moved hW9.alike hK⟩, hS.F ht9⟩) hS.2.2 dX10_step_51
  · refine lv_iconst (v := iZ 1) hx hb dX10_step_14 rfl ?_
    refine lv_goto (tgt := 19) hx hb dX10_step_15 (by decide) ?_
    refine lv_iconst (v := iZ 1) hx hb dX10_step_19 rfl ?_
    refine lv_iconst (v := iZ 0) hx hb dX10_step_20 rfl ?_
    refine va_calli (va_runV (As := [.int (iZ (1)), .int (iZ (1)), .int (iZ (0))]) (rest := []) ⟨hx, hb, hml, hown, hts⟩ (m_bad2 l dC dI cI cZ cII cIII h0 H.size μ1 (1) (1) (0) (by first | assumption | omega | exact ⟨by omega, by omega⟩) (by first | assumption | omega | exact ⟨by omega, by omega⟩) (by first | assumption | omega | exact ⟨by omega, by omega⟩) (by first | assumption | omega | exact ⟨by omega, by omega⟩)) (cwV 3 hts (gV_G k1338 k1340 ks_yX10_bad k13 k1341) rfl rfl rfl (by decide +kernel) ⟨Nat.le_of_ble_eq_true rfl, Nat.le_of_ble_eq_true rfl⟩) ⟨fun a U g mk q => by obtain ⟨q0, q1, qP, qK⟩ := q; exact ⟨q0, q1, qP, va_K.moved (u := U) (U := U.calling g mk a) (Vm.Alike.refl U.vm) qK⟩, va_recv hK hP (ci := 10) (q0 := 0) rfl ((fw_get (by decide)).trans (by rw [mE_obj]; rfl)), fun U hU hW => ⟨rfl, by rw [hU], by rw [hU]; exact hP, va_K.moved hW.alike hK⟩⟩ rfl rfl hl.1 rfl (lv_room (Nat.le_of_ble_eq_true rfl)) dX10_step_21 ⟨Nat.le_of_ble_eq_true rfl, Nat.le_of_ble_eq_true rfl⟩) hS (fun q _ h => fA_le hS.1 q h) (fA_le hS.1) (fun r9 u9 t9 H1 locs ht9 hvm9 hw9 hB9 hz9 hk9 hS => ?_)
    obtain ⟨μ15, r16⟩ := u9
    obtain ⟨hP, -⟩ := hB9
    rw [ht9] at hP
    generalize H1 = H at hP hS ⊢
    obtain ⟨e9, hw9⟩ := hw9
    have e9 : r9 = iZ r16 := e9
    subst e9
    simp only at hP hw9
    have hμ15 := hw9; clear hw9
    have hfr := fr_trans hfr (badP_fr hμ15)
    have hrb := badP_r hμ15
    obtain rfl : r16 = 1 := by omega
    refine fz_if_ne (tgt := 50) (by decide) hx hb dX10_step_24 (by decide) (fun c24_ => ?_) (fun h9 => absurd h9 (by decide))
    refine lv_iconst (v := iZ 0) hx hb dX10_step_50 rfl ?_
    exact W.iret (v := iZ (0)) hx hb hr (fun t9 ht9 hW9 => ⟨⟨iZ (0), (μ15, 0), rfl, ⟨rfl, (by
                dsimp only
                exact ⟨hfr, by omega⟩)⟩, by rw [ht9]; exact hP, va_K.moved hW9.alike hK⟩, hS.F ht9⟩) hS.2.2 dX10_step_51
set_option maxHeartbeats 4000000 in
set_option maxRecDepth 100000 in
theorem m_told (l : Launch) (dC : Nat → ClassId) (dI : Nat → Nat → Nat) (cI cZ cII cIII : ClassId) (h0 sz : Nat) (μ : va_M) (w : Int) (hQ : RQ μ) (hw9 : inR w) : Met l yX10_told (Cond.code yX10_told cX10_told 2 (some .int) :: wsG) ({ frames := 3, cells := 0, slots := 0, locals := 60 } : Room) (va_Pc [.ref h0, .int (iZ (w))] (fun U => U.heap.size = sz ∧ va_P (dC, dI) vwCl (fw (mE cI cZ cII cIII h0) h0 6325 μ) U.heap ∧ va_K (dC, dI) vwCl (mT cI cZ cII cIII) U)) (va_Qi (fun (r9 : Int32) (u : va_M × Int) => r9 = iZ u.2 ∧ (fun (u : va_M) (r : Int) => fr PS μ u ∧ (u 0 0 = 0 ∨ u 0 0 = 1 ∨ u 0 0 = 2)) u.1 u.2) (fun u t => va_P (dC, dI) vwCl (fw (mE cI cZ cII cIII h0) h0 6325 u.1) t.heap ∧ va_K (dC, dI) vwCl (mT cI cZ cII cIII) t) (fA h0 6325 sz)) 0 0 (fA h0 6325 sz) := by
  refine Met.ofW (cc := cX10_told) (maxL := 2) (ret := (some .int)) (by decide) rfl ?_
  intro p e s m args below meth c s₁ B hml hv
  obtain ⟨rfl, hsz, hP, hK⟩ := hv
  have hx := B.exec
  have hb := B.bytes
  have hr := B.returns
  have hts : ∀ w ∈ wsG, w.before _ s = true := hG_of (atoms_spec (ws := (Cond.code yX10_told cX10_told 2 (some .int) :: wsG)) B.pre)
  have hown : s.vm.findClass RX10 = some m.cls := findClass_of_methodNamed B.named
  have hlocks := B.notSynchronized
  subst hsz
  have hS : va_S (fA h0 6325 s.heap.size) s.heap s.heap [] := va_S.rf
  have hl := lv_entry ([.ref h0, .int (iZ (w))]) (n := 2) (Nat.le_of_ble_eq_true rfl)
  rw [lg_entry_eq]
  generalize (lg_sl ([.ref h0, .int (iZ (w))]) ++ List.replicate (2 - (lg_sl ([.ref h0, .int (iZ (w))])).length) Slot.unset).toArray = ls at hl ⊢
  have hl : lv_has ls 2 [(0, .ref h0), (1, .int (iZ (w)))] := hl
  refine lv_aload_n hx hb dX10_told_0 rfl (lv_at hl 0 rfl) ?_
  refine lv_iconst (v := iZ 0) hx hb dX10_told_1 rfl ?_
  refine fz_put (D := (dC, dI)) (ci := 10) (ty := .int) (z := 0) (C := RX10) (T := TX10) (N := 53) hx hb hts inG10 tyX10 tyX10_ok nmX10 hown hK hP fA_in hS (k := 0) (by decide) (F := mF h0) mE_obj rfl 0 (by decide) (hts _ k1166) (fun _ h9 => h9) rfl (by decide +kernel) rfl rfl (fun _ => Nat.le_of_ble_eq_true rfl) (fun _ _ => rfl) dX10_told_2 (fun H locs hP hS => ?_)
  obtain ⟨μ1, eμ1⟩ : ∃ x : va_M, x = uz μ 0 0 (0) := ⟨_, rfl⟩
  rw [← eμ1] at hP
  have hfr : fr PS μ μ1 := by rw [eμ1]; exact fr_uz fr_rfl (by unfold PS; omega)
  have ht0 : μ1 0 0 = 0 := by rw [eμ1, uz_s]
  have e10 := hfr 0 10 (PS_n (by omega))
  have e9 := hfr 0 9 (PS_n (by omega))
  have e71 := hfr 719 0 (PS_n (by omega))
  have hQ1 := RQ_fr hQ hfr
  have hQc := hQ
  obtain ⟨f10, ⟨fT, fTb, fTw⟩, fS3, fPg, fw9, fwB, fwT⟩ := hQc
  obtain ⟨g10, ⟨gT, gTb, gTw⟩, gS3, gPg, gw, gwB, gwT⟩ := hQ1
  have gtk := TR_tok gwT gwB.1 gwB.2.1
  have gt1 := gtk.1
  have gt2 := gtk.2.1
  refine lv_aload_n hx hb dX10_told_5 rfl (lv_at hl 0 rfl) ?_
  refine lv_iload_n hx hb dX10_told_6 rfl (lv_at hl 1 rfl) ?_
  refine lv_iconst (v := iZ 0) hx hb dX10_told_7 rfl ?_
  refine lv_bipush (v := iZ 9) hx hb dX10_told_8 rfl ?_
  refine va_calli (va_runS (As := [.int (iZ (w)), .int (iZ (0)), .int (iZ (9))]) (rest := [.ref h0]) ⟨hx, hb, hml, hown, hts⟩ (m_in l dC dI cI cZ cII cIII h0 H.size μ1 (w) (0) (9) (by first | assumption | omega | exact ⟨by omega, by omega⟩) (by first | assumption | omega | exact ⟨by omega, by omega⟩) (by first | assumption | omega | exact ⟨by omega, by omega⟩)) (cwS 3 hts (gS_G k1335 k1336 k13 k1337) rfl rfl rfl (by decide +kernel) ⟨Nat.le_of_ble_eq_true rfl, Nat.le_of_ble_eq_true rfl⟩) ⟨fun a U g mk q => by obtain ⟨q0, q1, qP, qK⟩ := q; exact ⟨q0, q1, qP, va_K.moved (u := U) (U := U.calling g mk a) (Vm.Alike.refl U.vm) qK⟩, fun U hU hW => ⟨rfl, by rw [hU], by rw [hU]; exact hP, va_K.moved hW.alike hK⟩⟩ rfl rfl hl.1 rfl (lv_room (Nat.le_of_ble_eq_true rfl)) dX10_told_10 ⟨Nat.le_of_ble_eq_true rfl, Nat.le_of_ble_eq_true rfl⟩) hS (fun q _ h => fA_le hS.1 q h) (fA_le hS.1) (fun r9 u9 t9 H1 locs ht9 hvm9 hw9 hB9 hz9 hk9 hS => ?_)
  obtain ⟨μ2, r3⟩ := u9
  obtain ⟨hP, -⟩ := hB9
  rw [ht9] at hP
  generalize H1 = H at hP hS ⊢
  obtain ⟨e9, hw9⟩ := hw9
  have e9 : r9 = iZ r3 := e9
  subst e9
  simp only at hP hw9
  have hμ2 := hw9; clear hw9
  rw [hμ2.1] at hP; have hμ2 := hμ2.2
  have hin := hμ2
  have hin2 := if_01 hμ2
  refine fz_if_ne (tgt := 20) (by constructor <;> omega) hx hb dX10_told_13 (by decide) (fun c13_ => ?_) (fun c13_ => ?_)
  · have hkk := if_get hin (by omega)
    refine lv_iconst (v := iZ 0) hx hb dX10_told_20 rfl ?_
    refine lv_iconst (v := iZ 1) hx hb dX10_told_21 rfl ?_
    refine lv_iconst (v := iZ 1) hx hb dX10_told_22 rfl ?_
    refine va_calli (va_runV (As := [.int (iZ (0)), .int (iZ (1)), .int (iZ (1))]) (rest := []) ⟨hx, hb, hml, hown, hts⟩ (m_bad2 l dC dI cI cZ cII cIII h0 H.size μ1 (0) (1) (1) (by first | assumption | omega | exact ⟨by omega, by omega⟩) (by first | assumption | omega | exact ⟨by omega, by omega⟩) (by first | assumption | omega | exact ⟨by omega, by omega⟩) (by first | assumption | omega | exact ⟨by omega, by omega⟩)) (cwV 3 hts (gV_G k1338 k1340 ks_yX10_bad k13 k1341) rfl rfl rfl (by decide +kernel) ⟨Nat.le_of_ble_eq_true rfl, Nat.le_of_ble_eq_true rfl⟩) ⟨fun a U g mk q => by obtain ⟨q0, q1, qP, qK⟩ := q; exact ⟨q0, q1, qP, va_K.moved (u := U) (U := U.calling g mk a) (Vm.Alike.refl U.vm) qK⟩, va_recv hK hP (ci := 10) (q0 := 0) rfl ((fw_get (by decide)).trans (by rw [mE_obj]; rfl)), fun U hU hW => ⟨rfl, by rw [hU], by rw [hU]; exact hP, va_K.moved hW.alike hK⟩⟩ rfl rfl hl.1 rfl (lv_room (Nat.le_of_ble_eq_true rfl)) dX10_told_23 ⟨Nat.le_of_ble_eq_true rfl, Nat.le_of_ble_eq_true rfl⟩) hS (fun q _ h => fA_le hS.1 q h) (fA_le hS.1) (fun r9 u9 t9 H1 locs ht9 hvm9 hw9 hB9 hz9 hk9 hS => ?_)
    obtain ⟨μ4, r5⟩ := u9
    obtain ⟨hP, -⟩ := hB9
    rw [ht9] at hP
    generalize H1 = H at hP hS ⊢
    obtain ⟨e9, hw9⟩ := hw9
    have e9 : r9 = iZ r5 := e9
    subst e9
    simp only at hP hw9
    have hμ4 := hw9; clear hw9
    have hfr := fr_trans hfr (badP_fr hμ4)
    have hrb := badP_r hμ4
    obtain rfl : r5 = 0 := by omega
    refine fz_if_eq (tgt := 31) (by decide) hx hb dX10_told_26 (by decide) (fun c26_ => ?_) (fun h9 => absurd h9 (by decide))
    have hQ2 := RQ_fr hQ hfr
    obtain ⟨k10, ⟨kT, kTb, kTw⟩, kS3, kPg, kw, kwB, kwT⟩ := hQ2
    have e10k := hfr 0 10 (PS_n (by omega))
    have e9k := hfr 0 9 (PS_n (by omega))
    have e71k := hfr 719 0 (PS_n (by omega))
    have ktk := TR_tok kwT kwB.1 kwB.2.1
    have kt1 := ktk.1
    have kt2 := ktk.2.1
    refine lv_iload_n hx hb dX10_told_31 rfl (lv_at hl 1 rfl) ?_
    by_cases hc32_0 : w = 0
    · refine lv_tableIn (tgt := 84) (off := 52) hx hb dX10_told_32 (by rw [iZ_toInt (by exact hw9), hc32_0]; decide +kernel) (by rw [iZ_toInt (by exact hw9), hc32_0]; decide +kernel) (by rw [iZ_toInt (by exact hw9), hc32_0]; decide +kernel) (by decide) ?_
      refine lv_aload_n hx hb dX10_told_84 rfl (lv_at hl 0 rfl) ?_
      refine fz_get (D := (dC, dI)) (ci := 10) (v := .int (iZ (μ4 0 10))) (C := RX10) (T := TX10) (N := 53) hx hb hts inG10 hown hK hP (k := 0) (by decide) (F := mF h0) mE_obj rfl 10 (by decide) (hts _ k1176) (fun _ h9 => h9) rfl dX10_told_85 ?_
      exact W.iret (v := iZ (μ4 0 10)) hx hb hr (fun t9 ht9 hW9 => ⟨⟨iZ (μ4 0 10), (μ4, μ4 0 10), rfl, ⟨rfl, (by
                    dsimp only
                    exact ⟨hfr, by omega⟩)⟩, by rw [ht9]; exact hP, va_K.moved hW9.alike hK⟩, hS.F ht9⟩) hS.2.2 dX10_told_88
    · skip
      by_cases hc32_1 : w = 1
      · refine lv_tableIn (tgt := 89) (off := 57) hx hb dX10_told_32 (by rw [iZ_toInt (by exact hw9), hc32_1]; decide +kernel) (by rw [iZ_toInt (by exact hw9), hc32_1]; decide +kernel) (by rw [iZ_toInt (by exact hw9), hc32_1]; decide +kernel) (by decide) ?_
        refine lv_aload_n hx hb dX10_told_89 rfl (lv_at hl 0 rfl) ?_
        refine fz_get (D := (dC, dI)) (ci := 10) (v := .int (iZ (μ4 0 9))) (C := RX10) (T := TX10) (N := 53) hx hb hts inG10 hown hK hP (k := 0) (by decide) (F := mF h0) mE_obj rfl 9 (by decide) (hts _ k1175) (fun _ h9 => h9) rfl dX10_told_90 ?_
        exact W.iret (v := iZ (μ4 0 9)) hx hb hr (fun t9 ht9 hW9 => ⟨⟨iZ (μ4 0 9), (μ4, μ4 0 9), rfl, ⟨rfl, (by
                        dsimp only
                        exact ⟨hfr, by omega⟩)⟩, by rw [ht9]; exact hP, va_K.moved hW9.alike hK⟩, hS.F ht9⟩) hS.2.2 dX10_told_93
      · skip
        by_cases hc32_2 : w = 2
        · refine lv_tableIn (tgt := 94) (off := 62) hx hb dX10_told_32 (by rw [iZ_toInt (by exact hw9), hc32_2]; decide +kernel) (by rw [iZ_toInt (by exact hw9), hc32_2]; decide +kernel) (by rw [iZ_toInt (by exact hw9), hc32_2]; decide +kernel) (by decide) ?_
          refine lv_aload_n hx hb dX10_told_94 rfl (lv_at hl 0 rfl) ?_
          refine fz_get (D := (dC, dI)) (ci := 10) (v := .ref (h0 + 719)) (C := RX10) (T := TX10) (N := 53) hx hb hts inG10 hown hK hP (k := 0) (by decide) (F := mF h0) mE_obj rfl 21 (by decide) (hts _ k1187) (fun _ h9 => h9) rfl dX10_told_95 ?_
          refine lv_iconst (v := iZ 0) hx hb dX10_told_98 rfl ?_
          refine fz_ld (k := 719) (n := 70) hx hb hK hP 0 (by decide) mE_nodes rfl ⟨by omega, by omega⟩ (by decide) dX10_told_99 ?_
          rw [show (0 : Int).toNat = 0 from rfl]
          exact W.iret (v := iZ (μ4 719 0)) hx hb hr (fun t9 ht9 hW9 => ⟨⟨iZ (μ4 719 0), (μ4, μ4 719 0), rfl, ⟨rfl, (by
                            dsimp only
                            exact ⟨hfr, by omega⟩)⟩, by rw [ht9]; exact hP, va_K.moved hW9.alike hK⟩, hS.F ht9⟩) hS.2.2 dX10_told_100
        · skip
          by_cases hc32_3 : w = 3
          · refine lv_tableIn (tgt := 101) (off := 69) hx hb dX10_told_32 (by rw [iZ_toInt (by exact hw9), hc32_3]; decide +kernel) (by rw [iZ_toInt (by exact hw9), hc32_3]; decide +kernel) (by rw [iZ_toInt (by exact hw9), hc32_3]; decide +kernel) (by decide) ?_
            refine lv_aload_n hx hb dX10_told_101 rfl (lv_at hl 0 rfl) ?_
            refine lv_iconst (v := iZ 0) hx hb dX10_told_102 rfl ?_
            refine va_calli (va_runV (As := [.int (iZ (0))]) (rest := []) ⟨hx, hb, hml, hown, hts⟩ (m_sizeOfAll2 l dC dI cI cZ cII cIII h0 H.size μ4 (0) (by decide) (by exact ktk)) (cwV 1 hts (gV_G k1484 k1486 ks_yX10_sizeOfAll k13 k1487) rfl rfl rfl (by decide +kernel) ⟨Nat.le_of_ble_eq_true rfl, Nat.le_of_ble_eq_true rfl⟩) ⟨fun a U g mk q => by obtain ⟨q0, q1, qP, qK⟩ := q; exact ⟨q0, q1, qP, va_K.moved (u := U) (U := U.calling g mk a) (Vm.Alike.refl U.vm) qK⟩, va_recv hK hP (ci := 10) (q0 := 0) rfl ((fw_get (by decide)).trans (by rw [mE_obj]; rfl)), fun U hU hW => ⟨rfl, by rw [hU], by rw [hU]; exact hP, va_K.moved hW.alike hK⟩⟩ rfl rfl hl.1 rfl (lv_room (Nat.le_of_ble_eq_true rfl)) dX10_told_103 ⟨Nat.le_of_ble_eq_true rfl, Nat.le_of_ble_eq_true rfl⟩) hS (fun q _ h => fA_le hS.1 q h) (fA_le hS.1) (fun r9 u9 t9 H1 locs ht9 hvm9 hw9 hB9 hz9 hk9 hS => ?_)
            obtain ⟨μ6, r7⟩ := u9
            obtain ⟨hP, -⟩ := hB9
            rw [ht9] at hP
            generalize H1 = H at hP hS ⊢
            obtain ⟨e9, hw9⟩ := hw9
            have e9 : r9 = iZ r7 := e9
            subst e9
            simp only at hP hw9
            have hμ6 := hw9; clear hw9
            rw [hμ6.1] at hP; have hμ6 := hμ6.2
            exact W.iret (v := iZ (r7)) hx hb hr (fun t9 ht9 hW9 => ⟨⟨iZ (r7), (μ4, r7), rfl, ⟨rfl, (by
                                dsimp only
                                exact ⟨hfr, by omega⟩)⟩, by rw [ht9]; exact hP, va_K.moved hW9.alike hK⟩, hS.F ht9⟩) hS.2.2 dX10_told_106
          · skip
            by_cases hc32_4 : w = 4
            · refine lv_tableIn (tgt := 107) (off := 75) hx hb dX10_told_32 (by rw [iZ_toInt (by exact hw9), hc32_4]; decide +kernel) (by rw [iZ_toInt (by exact hw9), hc32_4]; decide +kernel) (by rw [iZ_toInt (by exact hw9), hc32_4]; decide +kernel) (by decide) ?_
              refine lv_aload_n hx hb dX10_told_107 rfl (lv_at hl 0 rfl) ?_
              refine lv_iconst (v := iZ 0) hx hb dX10_told_108 rfl ?_
              refine lv_iload_n hx hb dX10_told_109 rfl (lv_at hl 1 rfl) ?_
              refine lv_iconst (v := iZ 2) hx hb dX10_told_110 rfl ?_
              refine lv_isub hx hb dX10_told_111 ?_
              refine lv_topi (fun x9 ex9 => ?_)
              obtain rfl : x9 = iZ (w - 2) := ex9.trans (iZ_sub _ _)
              refine va_calli (va_runV (As := [.int (iZ (0)), .int (iZ (w - 2))]) (rest := []) ⟨hx, hb, hml, hown, hts⟩ (m_ofSort l dC dI cI cZ cII cIII h0 H.size μ4 (0) (w - 2) (by decide) (by exact ktk) (by constructor <;> omega)) (cwV 2 hts (gV_G k1576 k1578 ks_yX10_ofSort k13 k1579) rfl rfl rfl (by decide +kernel) ⟨Nat.le_of_ble_eq_true rfl, Nat.le_of_ble_eq_true rfl⟩) ⟨fun a U g mk q => by obtain ⟨q0, q1, qP, qK⟩ := q; exact ⟨q0, q1, qP, va_K.moved (u := U) (U := U.calling g mk a) (Vm.Alike.refl U.vm) qK⟩, va_recv hK hP (ci := 10) (q0 := 0) rfl ((fw_get (by decide)).trans (by rw [mE_obj]; rfl)), fun U hU hW => ⟨rfl, by rw [hU], by rw [hU]; exact hP, va_K.moved hW.alike hK⟩⟩ rfl rfl hl.1 rfl (lv_room (Nat.le_of_ble_eq_true rfl)) dX10_told_112 ⟨Nat.le_of_ble_eq_true rfl, Nat.le_of_ble_eq_true rfl⟩) hS (fun q _ h => fA_le hS.1 q h) (fA_le hS.1) (fun r9 u9 t9 H1 locs ht9 hvm9 hw9 hB9 hz9 hk9 hS => ?_)
              obtain ⟨μ8, r10⟩ := u9
              obtain ⟨hP, -⟩ := hB9
              rw [ht9] at hP
              generalize H1 = H at hP hS ⊢
              obtain ⟨e9, hw9⟩ := hw9
              have e9 : r9 = iZ r10 := e9
              subst e9
              simp only at hP hw9
              have hμ8 := hw9; clear hw9
              rw [hμ8.1] at hP; have hμ8 := hμ8.2
              exact W.iret (v := iZ (r10)) hx hb hr (fun t9 ht9 hW9 => ⟨⟨iZ (r10), (μ4, r10), rfl, ⟨rfl, (by
                                    dsimp only
                                    exact ⟨hfr, by omega⟩)⟩, by rw [ht9]; exact hP, va_K.moved hW9.alike hK⟩, hS.F ht9⟩) hS.2.2 dX10_told_115
            · skip
              by_cases hc32_5 : w = 5
              · refine lv_tableIn (tgt := 107) (off := 75) hx hb dX10_told_32 (by rw [iZ_toInt (by exact hw9), hc32_5]; decide +kernel) (by rw [iZ_toInt (by exact hw9), hc32_5]; decide +kernel) (by rw [iZ_toInt (by exact hw9), hc32_5]; decide +kernel) (by decide) ?_
                refine lv_aload_n hx hb dX10_told_107 rfl (lv_at hl 0 rfl) ?_
                refine lv_iconst (v := iZ 0) hx hb dX10_told_108 rfl ?_
                refine lv_iload_n hx hb dX10_told_109 rfl (lv_at hl 1 rfl) ?_
                refine lv_iconst (v := iZ 2) hx hb dX10_told_110 rfl ?_
                refine lv_isub hx hb dX10_told_111 ?_
                refine lv_topi (fun x9 ex9 => ?_)
                obtain rfl : x9 = iZ (w - 2) := ex9.trans (iZ_sub _ _)
                refine va_calli (va_runV (As := [.int (iZ (0)), .int (iZ (w - 2))]) (rest := []) ⟨hx, hb, hml, hown, hts⟩ (m_ofSort l dC dI cI cZ cII cIII h0 H.size μ4 (0) (w - 2) (by decide) (by exact ktk) (by constructor <;> omega)) (cwV 2 hts (gV_G k1576 k1578 ks_yX10_ofSort k13 k1579) rfl rfl rfl (by decide +kernel) ⟨Nat.le_of_ble_eq_true rfl, Nat.le_of_ble_eq_true rfl⟩) ⟨fun a U g mk q => by obtain ⟨q0, q1, qP, qK⟩ := q; exact ⟨q0, q1, qP, va_K.moved (u := U) (U := U.calling g mk a) (Vm.Alike.refl U.vm) qK⟩, va_recv hK hP (ci := 10) (q0 := 0) rfl ((fw_get (by decide)).trans (by rw [mE_obj]; rfl)), fun U hU hW => ⟨rfl, by rw [hU], by rw [hU]; exact hP, va_K.moved hW.alike hK⟩⟩ rfl rfl hl.1 rfl (lv_room (Nat.le_of_ble_eq_true rfl)) dX10_told_112 ⟨Nat.le_of_ble_eq_true rfl, Nat.le_of_ble_eq_true rfl⟩) hS (fun q _ h => fA_le hS.1 q h) (fA_le hS.1) (fun r9 u9 t9 H1 locs ht9 hvm9 hw9 hB9 hz9 hk9 hS => ?_)
                obtain ⟨μ11, r12⟩ := u9
                obtain ⟨hP, -⟩ := hB9
                rw [ht9] at hP
                generalize H1 = H at hP hS ⊢
                obtain ⟨e9, hw9⟩ := hw9
                have e9 : r9 = iZ r12 := e9
                subst e9
                simp only at hP hw9
                have hμ11 := hw9; clear hw9
                rw [hμ11.1] at hP; have hμ11 := hμ11.2
                exact W.iret (v := iZ (r12)) hx hb hr (fun t9 ht9 hW9 => ⟨⟨iZ (r12), (μ4, r12), rfl, ⟨rfl, (by
                                        dsimp only
                                        exact ⟨hfr, by omega⟩)⟩, by rw [ht9]; exact hP, va_K.moved hW9.alike hK⟩, hS.F ht9⟩) hS.2.2 dX10_told_115
              · skip
                by_cases hc32_6 : w = 6
                · refine lv_tableIn (tgt := 107) (off := 75) hx hb dX10_told_32 (by rw [iZ_toInt (by exact hw9), hc32_6]; decide +kernel) (by rw [iZ_toInt (by exact hw9), hc32_6]; decide +kernel) (by rw [iZ_toInt (by exact hw9), hc32_6]; decide +kernel) (by decide) ?_
                  refine lv_aload_n hx hb dX10_told_107 rfl (lv_at hl 0 rfl) ?_
                  refine lv_iconst (v := iZ 0) hx hb dX10_told_108 rfl ?_
                  refine lv_iload_n hx hb dX10_told_109 rfl (lv_at hl 1 rfl) ?_
                  refine lv_iconst (v := iZ 2) hx hb dX10_told_110 rfl ?_
                  refine lv_isub hx hb dX10_told_111 ?_
                  refine lv_topi (fun x9 ex9 => ?_)
                  obtain rfl : x9 = iZ (w - 2) := ex9.trans (iZ_sub _ _)
                  refine va_calli (va_runV (As := [.int (iZ (0)), .int (iZ (w - 2))]) (rest := []) ⟨hx, hb, hml, hown, hts⟩ (m_ofSort l dC dI cI cZ cII cIII h0 H.size μ4 (0) (w - 2) (by decide) (by exact ktk) (by constructor <;> omega)) (cwV 2 hts (gV_G k1576 k1578 ks_yX10_ofSort k13 k1579) rfl rfl rfl (by decide +kernel) ⟨Nat.le_of_ble_eq_true rfl, Nat.le_of_ble_eq_true rfl⟩) ⟨fun a U g mk q => by obtain ⟨q0, q1, qP, qK⟩ := q; exact ⟨q0, q1, qP, va_K.moved (u := U) (U := U.calling g mk a) (Vm.Alike.refl U.vm) qK⟩, va_recv hK hP (ci := 10) (q0 := 0) rfl ((fw_get (by decide)).trans (by rw [mE_obj]; rfl)), fun U hU hW => ⟨rfl, by rw [hU], by rw [hU]; exact hP, va_K.moved hW.alike hK⟩⟩ rfl rfl hl.1 rfl (lv_room (Nat.le_of_ble_eq_true rfl)) dX10_told_112 ⟨Nat.le_of_ble_eq_true rfl, Nat.le_of_ble_eq_true rfl⟩) hS (fun q _ h => fA_le hS.1 q h) (fA_le hS.1) (fun r9 u9 t9 H1 locs ht9 hvm9 hw9 hB9 hz9 hk9 hS => ?_)
                  obtain ⟨μ13, r14⟩ := u9
                  obtain ⟨hP, -⟩ := hB9
                  rw [ht9] at hP
                  generalize H1 = H at hP hS ⊢
                  obtain ⟨e9, hw9⟩ := hw9
                  have e9 : r9 = iZ r14 := e9
                  subst e9
                  simp only at hP hw9
                  have hμ13 := hw9; clear hw9
                  rw [hμ13.1] at hP; have hμ13 := hμ13.2
                  exact W.iret (v := iZ (r14)) hx hb hr (fun t9 ht9 hW9 => ⟨⟨iZ (r14), (μ4, r14), rfl, ⟨rfl, (by
                                            dsimp only
                                            exact ⟨hfr, by omega⟩)⟩, by rw [ht9]; exact hP, va_K.moved hW9.alike hK⟩, hS.F ht9⟩) hS.2.2 dX10_told_115
                · skip
                  by_cases hc32_7 : w = 7
                  · refine lv_tableIn (tgt := 116) (off := 84) hx hb dX10_told_32 (by rw [iZ_toInt (by exact hw9), hc32_7]; decide +kernel) (by rw [iZ_toInt (by exact hw9), hc32_7]; decide +kernel) (by rw [iZ_toInt (by exact hw9), hc32_7]; decide +kernel) (by decide) ?_
                    refine lv_aload_n hx hb dX10_told_116 rfl (lv_at hl 0 rfl) ?_
                    refine fz_get (D := (dC, dI)) (ci := 10) (v := .int (iZ (μ4 0 23))) (C := RX10) (T := TX10) (N := 53) hx hb hts inG10 hown hK hP (k := 0) (by decide) (F := mF h0) mE_obj rfl 23 (by decide) (hts _ k1189) (fun _ h9 => h9) rfl dX10_told_117 ?_
                    exact W.iret (v := iZ (μ4 0 23)) hx hb hr (fun t9 ht9 hW9 => ⟨⟨iZ (μ4 0 23), (μ4, μ4 0 23), rfl, ⟨rfl, (by
                                                dsimp only
                                                exact ⟨hfr, by omega⟩)⟩, by rw [ht9]; exact hP, va_K.moved hW9.alike hK⟩, hS.F ht9⟩) hS.2.2 dX10_told_120
                  · skip
                    by_cases hc32_8 : w = 8
                    · refine lv_tableIn (tgt := 121) (off := 89) hx hb dX10_told_32 (by rw [iZ_toInt (by exact hw9), hc32_8]; decide +kernel) (by rw [iZ_toInt (by exact hw9), hc32_8]; decide +kernel) (by rw [iZ_toInt (by exact hw9), hc32_8]; decide +kernel) (by decide) ?_
                      refine lv_aload_n hx hb dX10_told_121 rfl (lv_at hl 0 rfl) ?_
                      refine fz_get (D := (dC, dI)) (ci := 10) (v := .int (iZ (μ4 0 24))) (C := RX10) (T := TX10) (N := 53) hx hb hts inG10 hown hK hP (k := 0) (by decide) (F := mF h0) mE_obj rfl 24 (by decide) (hts _ k1190) (fun _ h9 => h9) rfl dX10_told_122 ?_
                      exact W.iret (v := iZ (μ4 0 24)) hx hb hr (fun t9 ht9 hW9 => ⟨⟨iZ (μ4 0 24), (μ4, μ4 0 24), rfl, ⟨rfl, (by
                                                    dsimp only
                                                    exact ⟨hfr, by omega⟩)⟩, by rw [ht9]; exact hP, va_K.moved hW9.alike hK⟩, hS.F ht9⟩) hS.2.2 dX10_told_125
                    · skip
                      refine lv_tableOut (tgt := 126) hx hb dX10_told_32 (by rw [iZ_toInt (by exact hw9)]; omega) (by decide) ?_
                      refine lv_aload_n hx hb dX10_told_126 rfl (lv_at hl 0 rfl) ?_
                      refine fz_get (D := (dC, dI)) (ci := 10) (v := .int (iZ (μ4 0 2))) (C := RX10) (T := TX10) (N := 53) hx hb hts inG10 hown hK hP (k := 0) (by decide) (F := mF h0) mE_obj rfl 2 (by decide) (hts _ k1168) (fun _ h9 => h9) rfl dX10_told_127 ?_
                      exact W.iret (v := iZ (μ4 0 2)) hx hb hr (fun t9 ht9 hW9 => ⟨⟨iZ (μ4 0 2), (μ4, μ4 0 2), rfl, ⟨rfl, (by
                                                    dsimp only
                                                    exact ⟨hfr, by omega⟩)⟩, by rw [ht9]; exact hP, va_K.moved hW9.alike hK⟩, hS.F ht9⟩) hS.2.2 dX10_told_130
  · refine lv_iconst (v := iZ 1) hx hb dX10_told_16 rfl ?_
    refine lv_goto (tgt := 21) hx hb dX10_told_17 (by decide) ?_
    refine lv_iconst (v := iZ 1) hx hb dX10_told_21 rfl ?_
    refine lv_iconst (v := iZ 1) hx hb dX10_told_22 rfl ?_
    refine va_calli (va_runV (As := [.int (iZ (1)), .int (iZ (1)), .int (iZ (1))]) (rest := []) ⟨hx, hb, hml, hown, hts⟩ (m_bad2 l dC dI cI cZ cII cIII h0 H.size μ1 (1) (1) (1) (by first | assumption | omega | exact ⟨by omega, by omega⟩) (by first | assumption | omega | exact ⟨by omega, by omega⟩) (by first | assumption | omega | exact ⟨by omega, by omega⟩) (by first | assumption | omega | exact ⟨by omega, by omega⟩)) (cwV 3 hts (gV_G k1338 k1340 ks_yX10_bad k13 k1341) rfl rfl rfl (by decide +kernel) ⟨Nat.le_of_ble_eq_true rfl, Nat.le_of_ble_eq_true rfl⟩) ⟨fun a U g mk q => by obtain ⟨q0, q1, qP, qK⟩ := q; exact ⟨q0, q1, qP, va_K.moved (u := U) (U := U.calling g mk a) (Vm.Alike.refl U.vm) qK⟩, va_recv hK hP (ci := 10) (q0 := 0) rfl ((fw_get (by decide)).trans (by rw [mE_obj]; rfl)), fun U hU hW => ⟨rfl, by rw [hU], by rw [hU]; exact hP, va_K.moved hW.alike hK⟩⟩ rfl rfl hl.1 rfl (lv_room (Nat.le_of_ble_eq_true rfl)) dX10_told_23 ⟨Nat.le_of_ble_eq_true rfl, Nat.le_of_ble_eq_true rfl⟩) hS (fun q _ h => fA_le hS.1 q h) (fA_le hS.1) (fun r9 u9 t9 H1 locs ht9 hvm9 hw9 hB9 hz9 hk9 hS => ?_)
    obtain ⟨μ15, r16⟩ := u9
    obtain ⟨hP, -⟩ := hB9
    rw [ht9] at hP
    generalize H1 = H at hP hS ⊢
    obtain ⟨e9, hw9⟩ := hw9
    have e9 : r9 = iZ r16 := e9
    subst e9
    simp only at hP hw9
    have hμ15 := hw9; clear hw9
    have hfr := fr_trans hfr (badP_fr hμ15)
    have hrb := badP_r hμ15
    obtain rfl : r16 = 1 := by omega
    refine fz_if_eq (tgt := 31) (by decide) hx hb dX10_told_26 (by decide) (fun h9 => absurd h9 (by decide)) (fun c26_ => ?_)
    refine lv_iconst (v := iZ 0) hx hb dX10_told_29 rfl ?_
    exact W.iret (v := iZ (0)) hx hb hr (fun t9 ht9 hW9 => ⟨⟨iZ (0), (μ15, 0), rfl, ⟨rfl, (by
                dsimp only
                exact ⟨hfr, by omega⟩)⟩, by rw [ht9]; exact hP, va_K.moved hW9.alike hK⟩, hS.F ht9⟩) hS.2.2 dX10_told_30
set_option maxHeartbeats 4000000 in
set_option maxRecDepth 100000 in
theorem LX10_shortest_9 {p : Program} {l : Launch} {e : Env} {R : Room} {s : State} {m : MethodId} {args : Array Value} {below : List Frame} {meth : Method} {c : Code} {cells slots : Nat} {Q : State → Prop} {dC : Nat → ClassId} {dI : Nat → Nat → Nat} {h0 : Nat} {cI cZ cII cIII : ClassId} (hx : p.tables.exec = Jvm.exec) (hb : c.code = cX10_shortest) (hml : c.maxLocals = 3) (hown : s.vm.findClass RX10 = some m.cls) (hts : ∀ w ∈ wsG, w.before args s = true) (hK : va_K (dC, dI) vwCl (mT cI cZ cII cIII) s) (hRf : 2 ≤ R.frames) (hRl : 39 ≤ R.locals) (hRc : cells ≤ R.cells) (hRs : slots ≤ R.slots) (μ0 : va_M) (hT : tok μ0 0) (hexit55 : ∀ (n : Int) (i : Int) (μ : va_M) (H : Heap) (locs : List Loc) (ls : Array Slot), (μ = μ0) → va_P (dC, dI) vwCl (fw (mE cI cZ cII cIII h0) h0 6325 μ) H → va_S (fA h0 6325 s.heap.size) s.heap H locs → lv_has ls 3 [(1, .int (iZ (n)))] → W p l e R s m args below meth c H locs cells slots Q (F0 m 55 ls [])) :
    ∀ (n9 : Nat) (n : Int) (i : Int) (μ : va_M) (H : Heap) (locs : List Loc) (ls : Array Slot), (μ = μ0) → (0 ≤ i ∧ i ≤ μ0 719 0) → (0 ≤ n ∧ n ≤ i) → (1000 - i).toNat < n9 → va_P (dC, dI) vwCl (fw (mE cI cZ cII cIII h0) h0 6325 μ) H → va_S (fA h0 6325 s.heap.size) s.heap H locs → lv_has ls 3 [(2, .int (iZ (i))), (1, .int (iZ (n))), (0, .ref h0)] → W p l e R s m args below meth c H locs cells slots Q (F0 m 9 ls []) := by
  intro n9
  induction n9 with
  | zero => intro n i μ H locs ls hm hk hn hm9 hP hS hl; exact absurd hm9 (Nat.not_lt_zero _)
  | succ n9 ih =>
    intro n i μ H locs ls hm hk hn hm9 hP hS hl
    subst hm
    have hT0 := hT
    obtain ⟨hT1, hT2, hT3⟩ := hT
    refine lv_iload_n hx hb dX10_shortest_9 rfl (lv_at hl 0 rfl) ?_
    refine lv_aload_n hx hb dX10_shortest_10 rfl (lv_at hl 2 rfl) ?_
    refine fz_get (D := (dC, dI)) (ci := 10) (v := .ref (h0 + 719)) (C := RX10) (T := TX10) (N := 53) hx hb hts inG10 hown hK hP (k := 0) (by decide) (F := mF h0) mE_obj rfl 21 (by decide) (hts _ k1187) (fun _ h9 => h9) rfl dX10_shortest_11 ?_
    refine lv_iconst (v := iZ 0) hx hb dX10_shortest_14 rfl ?_
    refine fz_ld (k := 719) (n := 70) hx hb hK hP 0 (by decide) mE_nodes rfl ⟨by omega, by omega⟩ (by decide) dX10_shortest_15 ?_
    rw [show (0 : Int).toNat = 0 from rfl]
    refine fz_icmp_ge (tgt := 55) (by constructor <;> omega) (by constructor <;> omega) hx hb dX10_shortest_16 (by decide) (fun c16_ => ?_) (fun c16_ => ?_)
    · exact hexit55 (n) (i) μ H locs ls (by rfl) hP hS (lv_sub hl [1] rfl)
    · obtain ⟨hx1, hx2, hx3, hx4⟩ := hT3 i.toNat (by omega)
      refine lv_iload_n hx hb dX10_shortest_19 rfl (lv_at hl 1 rfl) ?_
      refine lv_aload_n hx hb dX10_shortest_20 rfl (lv_at hl 2 rfl) ?_
      refine fz_get (D := (dC, dI)) (ci := 10) (v := .ref (h0 + 506)) (C := RX10) (T := TX10) (N := 53) hx hb hts inG10 hown hK hP (k := 0) (by decide) (F := mF h0) mE_obj rfl 18 (by decide) (hts _ k1184) (fun _ h9 => h9) rfl dX10_shortest_21 ?_
      refine lv_iconst (v := iZ 0) hx hb dX10_shortest_24 rfl ?_
      refine fz_ald (k := 506) (n := 70) (k2 := (507 + 0)) hx hb hK hP 2 rfl (by decide) mE_sort rfl ⟨by omega, by omega⟩ (by decide) (if_pos (by omega)) dX10_shortest_25 ?_
      refine lv_iload_n hx hb dX10_shortest_26 rfl (lv_at hl 0 rfl) ?_
      refine fz_ld (k := (507 + 0)) (n := 900) hx hb hK hP 0 (by omega) (mE_sortR (by omega)) rfl ⟨by omega, by omega⟩ (by decide) dX10_shortest_27 ?_
      refine lv_iconst (v := iZ 3) hx hb dX10_shortest_28 rfl ?_
      refine fz_icmp_ge (tgt := 46) (by constructor <;> omega) (by decide) hx hb dX10_shortest_29 (by decide) (fun c29_ => ?_) (fun c29_ => ?_)
      · refine lv_iconst (v := iZ 0) hx hb dX10_shortest_46 rfl ?_
        refine lv_iadd hx hb dX10_shortest_47 ?_
        refine lv_topi (fun x9 ex9 => ?_)
        obtain rfl : x9 = iZ (n + 0) := ex9.trans (iZ_add _ _)
        refine lv_istore_n (lv' := [(1, .int (iZ (n + 0))), (2, .int (iZ (i))), (0, .ref h0)]) hx hb dX10_shortest_48 rfl hl (by decide) rfl (fun ls hl => ?_)
        refine lv_iinc (v := iZ (i + 1)) (lv' := [(2, .int (iZ (i + 1))), (1, .int (iZ (n + 0))), (0, .ref h0)]) hx hb dX10_shortest_49 hl (k := 1) rfl (iZ_add _ _) (by decide) rfl (fun ls hl => ?_)
        refine lv_goto (tgt := 9) hx hb dX10_shortest_52 (by decide) ?_
        exact ih (n + 0) (i + 1) μ H locs ls (by rfl) (by omega) (by omega) (by omega) hP hS (lv_sub hl [0, 1, 2] rfl)
      · refine lv_aload_n hx hb dX10_shortest_32 rfl (lv_at hl 2 rfl) ?_
        refine lv_iconst (v := iZ 0) hx hb dX10_shortest_33 rfl ?_
        refine lv_iload_n hx hb dX10_shortest_34 rfl (lv_at hl 0 rfl) ?_
        refine lv_iconst (v := iZ 3) hx hb dX10_shortest_35 rfl ?_
        refine va_calli (va_runV (As := [.int (iZ (0)), .int (iZ (i)), .int (iZ (3))]) (rest := [.int (iZ (n))]) ⟨hx, hb, hml, hown, hts⟩ (m_depthOf l dC dI cI cZ cII cIII h0 H.size μ (0) (i) (3) (by decide) (by exact hT0) (by rw [show (0 : Int).toNat = 0 from rfl]; omega) (by constructor <;> decide)) (cwV 3 hts (gV_G k1592 k1594 ks_yX10_depthOf k13 k1595) rfl rfl rfl (by decide +kernel) ⟨by show 1 + 1 ≤ _; omega, by show 8 + (6 + 11) + (14) ≤ _; omega⟩) ⟨fun a U g mk q => by obtain ⟨q0, q1, qP, qK⟩ := q; exact ⟨q0, q1, qP, va_K.moved (u := U) (U := U.calling g mk a) (Vm.Alike.refl U.vm) qK⟩, va_recv hK hP (ci := 10) (q0 := 0) rfl ((fw_get (by decide)).trans (by rw [mE_obj]; rfl)), fun U hU hW => ⟨rfl, by rw [hU], by rw [hU]; exact hP, va_K.moved hW.alike hK⟩⟩ rfl rfl hl.1 rfl (lv_room (Nat.le_of_ble_eq_true rfl)) dX10_shortest_36 ⟨hRc, hRs⟩) hS (fun q _ h => fA_le hS.1 q h) (fA_le hS.1) (fun r9 u9 t9 H1 locs ht9 hvm9 hw9 hB9 hz9 hk9 hS => ?_)
        obtain ⟨μ1, r2⟩ := u9
        obtain ⟨hP, -⟩ := hB9
        rw [ht9] at hP
        generalize H1 = H at hP hS ⊢
        obtain ⟨e9, hw9⟩ := hw9
        have e9 : r9 = iZ r2 := e9
        subst e9
        simp only at hP hw9
        have hμ1 := hw9; clear hw9
        rw [hμ1.1] at hP; have hμ1 := hμ1.2
        refine fz_if_ne (tgt := 46) (by constructor <;> omega) hx hb dX10_shortest_39 (by decide) (fun c39_ => ?_) (fun c39_ => ?_)
        · refine lv_iconst (v := iZ 0) hx hb dX10_shortest_46 rfl ?_
          refine lv_iadd hx hb dX10_shortest_47 ?_
          refine lv_topi (fun x9 ex9 => ?_)
          obtain rfl : x9 = iZ (n + 0) := ex9.trans (iZ_add _ _)
          refine lv_istore_n (lv' := [(1, .int (iZ (n + 0))), (2, .int (iZ (i))), (0, .ref h0)]) hx hb dX10_shortest_48 rfl hl (by decide) rfl (fun ls hl => ?_)
          refine lv_iinc (v := iZ (i + 1)) (lv' := [(2, .int (iZ (i + 1))), (1, .int (iZ (n + 0))), (0, .ref h0)]) hx hb dX10_shortest_49 hl (k := 1) rfl (iZ_add _ _) (by decide) rfl (fun ls hl => ?_)
          refine lv_goto (tgt := 9) hx hb dX10_shortest_52 (by decide) ?_
          exact ih (n + 0) (i + 1) μ H locs ls (by rfl) (by omega) (by omega) (by omega) hP hS (lv_sub hl [0, 1, 2] rfl)
        · refine lv_iconst (v := iZ 1) hx hb dX10_shortest_42 rfl ?_
          refine lv_goto (tgt := 47) hx hb dX10_shortest_43 (by decide) ?_
          refine lv_iadd hx hb dX10_shortest_47 ?_
          refine lv_topi (fun x9 ex9 => ?_)
          obtain rfl : x9 = iZ (n + 1) := ex9.trans (iZ_add _ _)
          refine lv_istore_n (lv' := [(1, .int (iZ (n + 1))), (2, .int (iZ (i))), (0, .ref h0)]) hx hb dX10_shortest_48 rfl hl (by decide) rfl (fun ls hl => ?_)
          refine lv_iinc (v := iZ (i + 1)) (lv' := [(2, .int (iZ (i + 1))), (1, .int (iZ (n + 1))), (0, .ref h0)]) hx hb dX10_shortest_49 hl (k := 1) rfl (iZ_add _ _) (by decide) rfl (fun ls hl => ?_)
          refine lv_goto (tgt := 9) hx hb dX10_shortest_52 (by decide) ?_
          exact ih (n + 1) (i + 1) μ H locs ls (by rfl) (by omega) (by omega) (by omega) hP hS (lv_sub hl [0, 1, 2] rfl)
set_option maxHeartbeats 4000000 in
set_option maxRecDepth 100000 in
theorem m_shortest (l : Launch) (dC : Nat → ClassId) (dI : Nat → Nat → Nat) (cI cZ cII cIII : ClassId) (h0 sz : Nat) (μ : va_M)  (hQ : RQ μ) : Met l yX10_shortest (Cond.code yX10_shortest cX10_shortest 3 (some .int) :: wsG) ({ frames := 2, cells := 0, slots := 0, locals := 39 } : Room) (va_Pc [.ref h0] (fun U => U.heap.size = sz ∧ va_P (dC, dI) vwCl (fw (mE cI cZ cII cIII h0) h0 6325 μ) U.heap ∧ va_K (dC, dI) vwCl (mT cI cZ cII cIII) U)) (va_Qi (fun (r9 : Int32) (u : va_M × Int) => r9 = iZ u.2 ∧ (fun (u : va_M) (r : Int) => fr PS μ u ∧ (u 0 0 = 0 ∨ u 0 0 = 1 ∨ u 0 0 = 2)) u.1 u.2) (fun u t => va_P (dC, dI) vwCl (fw (mE cI cZ cII cIII h0) h0 6325 u.1) t.heap ∧ va_K (dC, dI) vwCl (mT cI cZ cII cIII) t) (fA h0 6325 sz)) 0 0 (fA h0 6325 sz) := by
  refine Met.ofW (cc := cX10_shortest) (maxL := 3) (ret := (some .int)) (by decide) rfl ?_
  intro p e s m args below meth c s₁ B hml hv
  obtain ⟨rfl, hsz, hP, hK⟩ := hv
  have hx := B.exec
  have hb := B.bytes
  have hr := B.returns
  have hts : ∀ w ∈ wsG, w.before _ s = true := hG_of (atoms_spec (ws := (Cond.code yX10_shortest cX10_shortest 3 (some .int) :: wsG)) B.pre)
  have hown : s.vm.findClass RX10 = some m.cls := findClass_of_methodNamed B.named
  have hlocks := B.notSynchronized
  subst hsz
  have hS : va_S (fA h0 6325 s.heap.size) s.heap s.heap [] := va_S.rf
  have hl := lv_entry ([.ref h0]) (n := 3) (Nat.le_of_ble_eq_true rfl)
  rw [lg_entry_eq]
  generalize (lg_sl ([.ref h0]) ++ List.replicate (3 - (lg_sl ([.ref h0])).length) Slot.unset).toArray = ls at hl ⊢
  have hl : lv_has ls 3 [(0, .ref h0)] := hl
  refine lv_aload_n hx hb dX10_shortest_0 rfl (lv_at hl 0 rfl) ?_
  refine lv_iconst (v := iZ 0) hx hb dX10_shortest_1 rfl ?_
  refine fz_put (D := (dC, dI)) (ci := 10) (ty := .int) (z := 0) (C := RX10) (T := TX10) (N := 53) hx hb hts inG10 tyX10 tyX10_ok nmX10 hown hK hP fA_in hS (k := 0) (by decide) (F := mF h0) mE_obj rfl 0 (by decide) (hts _ k1166) (fun _ h9 => h9) rfl (by decide +kernel) rfl rfl (fun _ => Nat.le_of_ble_eq_true rfl) (fun _ _ => rfl) dX10_shortest_2 (fun H locs hP hS => ?_)
  obtain ⟨μ3, eμ3⟩ : ∃ x : va_M, x = uz μ 0 0 (0) := ⟨_, rfl⟩
  rw [← eμ3] at hP
  have hfr : fr PS μ μ3 := by rw [eμ3]; exact fr_uz fr_rfl (by unfold PS; omega)
  have ht0 : μ3 0 0 = 0 := by rw [eμ3, uz_s]
  have e10 := hfr 0 10 (PS_n (by omega))
  have e9 := hfr 0 9 (PS_n (by omega))
  have e71 := hfr 719 0 (PS_n (by omega))
  have hQ1 := RQ_fr hQ hfr
  have hQc := hQ
  obtain ⟨f10, ⟨fT, fTb, fTw⟩, fS3, fPg, fw9, fwB, fwT⟩ := hQc
  obtain ⟨g10, ⟨gT, gTb, gTw⟩, gS3, gPg, gw, gwB, gwT⟩ := hQ1
  have gtk := TR_tok gwT gwB.1 gwB.2.1
  have gt1 := gtk.1
  have gt2 := gtk.2.1
  refine lv_iconst (v := iZ 0) hx hb dX10_shortest_5 rfl ?_
  refine lv_istore_n (lv' := [(1, .int (iZ (0))), (0, .ref h0)]) hx hb dX10_shortest_6 rfl hl (by decide) rfl (fun ls hl => ?_)
  refine lv_iconst (v := iZ 0) hx hb dX10_shortest_7 rfl ?_
  refine lv_istore_n (lv' := [(2, .int (iZ (0))), (1, .int (iZ (0))), (0, .ref h0)]) hx hb dX10_shortest_8 rfl hl (by decide) rfl (fun ls hl => ?_)
  refine LX10_shortest_9 hx hb hml hown hts hK (Nat.le_of_ble_eq_true rfl) (Nat.le_of_ble_eq_true rfl) (Nat.le_of_ble_eq_true rfl) (Nat.le_of_ble_eq_true rfl) (μ3) (by exact gtk) ?_ _ (0) (0) μ3 H locs ls (by rfl) (by omega) (by omega) (Nat.lt_succ_self _) hP hS (lv_sub hl [0, 1, 2] rfl)
  · intro n_4 i_4 μ4_ H locs ls q1_4 hP hS hl
    have hl : lv_has ls 3 [(1, .int (iZ (n_4)))] := hl
    refine lv_iload_n hx hb dX10_shortest_55 rfl (lv_at hl 0 rfl) ?_
    exact W.iret (v := iZ (n_4)) hx hb hr (fun t9 ht9 hW9 => ⟨⟨iZ (n_4), (μ4_, n_4), rfl, ⟨rfl, (by
                dsimp only
                rw [q1_4]; exact ⟨hfr, by omega⟩)⟩, by rw [ht9]; exact hP, va_K.moved hW9.alike hK⟩, hS.F ht9⟩) hS.2.2 dX10_shortest_56
set_option maxHeartbeats 4000000 in
set_option maxRecDepth 100000 in
theorem LX10_firm_34 {p : Program} {l : Launch} {e : Env} {R : Room} {s : State} {m : MethodId} {args : Array Value} {below : List Frame} {meth : Method} {c : Code} {cells slots : Nat} {Q : State → Prop} {dC : Nat → ClassId} {dI : Nat → Nat → Nat} {h0 : Nat} {cI cZ cII cIII : ClassId} (hx : p.tables.exec = Jvm.exec) (hb : c.code = cX10_firm) (hml : c.maxLocals = 6) (hown : s.vm.findClass RX10 = some m.cls) (hts : ∀ w ∈ wsG, w.before args s = true) (hK : va_K (dC, dI) vwCl (mT cI cZ cII cIII) s) (hRf : 2 ≤ R.frames) (hRl : 39 ≤ R.locals) (hRc : cells ≤ R.cells) (hRs : slots ≤ R.slots) (μ0 : va_M) (w : Int) (hT : tok μ0 0) (hw : inR w) (hexit126 : ∀ (n : Int) (i : Int) (μ : va_M) (H : Heap) (locs : List Loc) (ls : Array Slot), (μ = μ0) → va_P (dC, dI) vwCl (fw (mE cI cZ cII cIII h0) h0 6325 μ) H → va_S (fA h0 6325 s.heap.size) s.heap H locs → lv_has ls 6 [(2, .int (iZ (n)))] → W p l e R s m args below meth c H locs cells slots Q (F0 m 126 ls [])) :
    ∀ (n9 : Nat) (n : Int) (i : Int) (μ : va_M) (H : Heap) (locs : List Loc) (ls : Array Slot), (μ = μ0) → (0 ≤ i ∧ i ≤ μ0 719 0) → (0 ≤ n ∧ n ≤ i) → (1000 - i).toNat < n9 → va_P (dC, dI) vwCl (fw (mE cI cZ cII cIII h0) h0 6325 μ) H → va_S (fA h0 6325 s.heap.size) s.heap H locs → lv_has ls 6 [(3, .int (iZ (i))), (2, .int (iZ (n))), (1, .int (iZ (w))), (0, .ref h0)] → W p l e R s m args below meth c H locs cells slots Q (F0 m 34 ls []) := by
  intro n9
  induction n9 with
  | zero => intro n i μ H locs ls hm hk hn hm9 hP hS hl; exact absurd hm9 (Nat.not_lt_zero _)
  | succ n9 ih =>
    intro n i μ H locs ls hm hk hn hm9 hP hS hl
    subst hm
    have hT0 := hT
    obtain ⟨hT1, hT2, hT3⟩ := hT
    refine lv_iload_n hx hb dX10_firm_34 rfl (lv_at hl 0 rfl) ?_
    refine lv_aload_n hx hb dX10_firm_35 rfl (lv_at hl 3 rfl) ?_
    refine fz_get (D := (dC, dI)) (ci := 10) (v := .ref (h0 + 719)) (C := RX10) (T := TX10) (N := 53) hx hb hts inG10 hown hK hP (k := 0) (by decide) (F := mF h0) mE_obj rfl 21 (by decide) (hts _ k1187) (fun _ h9 => h9) rfl dX10_firm_36 ?_
    refine lv_iconst (v := iZ 0) hx hb dX10_firm_39 rfl ?_
    refine fz_ld (k := 719) (n := 70) hx hb hK hP 0 (by decide) mE_nodes rfl ⟨by omega, by omega⟩ (by decide) dX10_firm_40 ?_
    rw [show (0 : Int).toNat = 0 from rfl]
    refine fz_icmp_ge (tgt := 126) (by constructor <;> omega) (by constructor <;> omega) hx hb dX10_firm_41 (by decide) (fun c41_ => ?_) (fun c41_ => ?_)
    · exact hexit126 (n) (i) μ H locs ls (by rfl) hP hS (lv_sub hl [1] rfl)
    · obtain ⟨hx1, hx2, hx3, hx4⟩ := hT3 i.toNat (by omega)
      refine lv_aload_n hx hb dX10_firm_44 rfl (lv_at hl 3 rfl) ?_
      refine fz_get (D := (dC, dI)) (ci := 10) (v := .ref (h0 + 506)) (C := RX10) (T := TX10) (N := 53) hx hb hts inG10 hown hK hP (k := 0) (by decide) (F := mF h0) mE_obj rfl 18 (by decide) (hts _ k1184) (fun _ h9 => h9) rfl dX10_firm_45 ?_
      refine lv_iconst (v := iZ 0) hx hb dX10_firm_48 rfl ?_
      refine fz_ald (k := 506) (n := 70) (k2 := (507 + 0)) hx hb hK hP 2 rfl (by decide) mE_sort rfl ⟨by omega, by omega⟩ (by decide) (if_pos (by omega)) dX10_firm_49 ?_
      refine lv_iload_n hx hb dX10_firm_50 rfl (lv_at hl 0 rfl) ?_
      refine fz_ld (k := (507 + 0)) (n := 900) hx hb hK hP 0 (by omega) (mE_sortR (by omega)) rfl ⟨by omega, by omega⟩ (by decide) dX10_firm_51 ?_
      refine lv_iconst (v := iZ 1) hx hb dX10_firm_52 rfl ?_
      refine fz_icmp_le (tgt := 59) (by constructor <;> omega) (by decide) hx hb dX10_firm_53 (by decide) (fun c53_ => ?_) (fun c53_ => ?_)
      · refine lv_aload_n hx hb dX10_firm_59 rfl (lv_at hl 3 rfl) ?_
        refine lv_iconst (v := iZ 0) hx hb dX10_firm_60 rfl ?_
        refine lv_iload_n hx hb dX10_firm_61 rfl (lv_at hl 0 rfl) ?_
        refine lv_iconst (v := iZ 3) hx hb dX10_firm_62 rfl ?_
        refine va_calli (va_runV (As := [.int (iZ (0)), .int (iZ (i)), .int (iZ (3))]) (rest := []) ⟨hx, hb, hml, hown, hts⟩ (m_depthOf l dC dI cI cZ cII cIII h0 H.size μ (0) (i) (3) (by decide) (by exact hT0) (by rw [show (0 : Int).toNat = 0 from rfl]; omega) (by constructor <;> decide)) (cwV 3 hts (gV_G k1592 k1594 ks_yX10_depthOf k13 k1595) rfl rfl rfl (by decide +kernel) ⟨by show 1 + 1 ≤ _; omega, by show 8 + (6 + 11) + (14) ≤ _; omega⟩) ⟨fun a U g mk q => by obtain ⟨q0, q1, qP, qK⟩ := q; exact ⟨q0, q1, qP, va_K.moved (u := U) (U := U.calling g mk a) (Vm.Alike.refl U.vm) qK⟩, va_recv hK hP (ci := 10) (q0 := 0) rfl ((fw_get (by decide)).trans (by rw [mE_obj]; rfl)), fun U hU hW => ⟨rfl, by rw [hU], by rw [hU]; exact hP, va_K.moved hW.alike hK⟩⟩ rfl rfl hl.1 rfl (lv_room (Nat.le_of_ble_eq_true rfl)) dX10_firm_63 ⟨hRc, hRs⟩) hS (fun q _ h => fA_le hS.1 q h) (fA_le hS.1) (fun r9 u9 t9 H1 locs ht9 hvm9 hw9 hB9 hz9 hk9 hS => ?_)
        obtain ⟨μ1, r2⟩ := u9
        obtain ⟨hP, -⟩ := hB9
        rw [ht9] at hP
        generalize H1 = H at hP hS ⊢
        obtain ⟨e9, hw9⟩ := hw9
        have e9 : r9 = iZ r2 := e9
        subst e9
        simp only at hP hw9
        have hμ1 := hw9; clear hw9
        rw [hμ1.1] at hP; have hμ1 := hμ1.2
        refine fz_if_le (tgt := 73) (by constructor <;> omega) hx hb dX10_firm_66 (by decide) (fun c66_ => ?_) (fun c66_ => ?_)
        · refine lv_iconst (v := iZ 0) hx hb dX10_firm_73 rfl ?_
          refine lv_istore (lv' := [(4, .int (iZ (0))), (3, .int (iZ (i))), (2, .int (iZ (n))), (1, .int (iZ (w))), (0, .ref h0)]) hx hb dX10_firm_74 hl (by decide) rfl (fun ls hl => ?_)
          refine lv_aload_n hx hb dX10_firm_76 rfl (lv_at hl 4 rfl) ?_
          refine lv_iconst (v := iZ 0) hx hb dX10_firm_77 rfl ?_
          refine lv_iload_n hx hb dX10_firm_78 rfl (lv_at hl 1 rfl) ?_
          refine lv_iconst (v := iZ 4) hx hb dX10_firm_79 rfl ?_
          refine va_calli (va_runV (As := [.int (iZ (0)), .int (iZ (i)), .int (iZ (4))]) (rest := []) ⟨hx, hb, hml, hown, hts⟩ (m_depthOf l dC dI cI cZ cII cIII h0 H.size μ (0) (i) (4) (by decide) (by exact hT0) (by rw [show (0 : Int).toNat = 0 from rfl]; omega) (by constructor <;> decide)) (cwV 3 hts (gV_G k1592 k1594 ks_yX10_depthOf k13 k1595) rfl rfl rfl (by decide +kernel) ⟨by show 1 + 1 ≤ _; omega, by show 8 + (6 + 11) + (14) ≤ _; omega⟩) ⟨fun a U g mk q => by obtain ⟨q0, q1, qP, qK⟩ := q; exact ⟨q0, q1, qP, va_K.moved (u := U) (U := U.calling g mk a) (Vm.Alike.refl U.vm) qK⟩, va_recv hK hP (ci := 10) (q0 := 0) rfl ((fw_get (by decide)).trans (by rw [mE_obj]; rfl)), fun U hU hW => ⟨rfl, by rw [hU], by rw [hU]; exact hP, va_K.moved hW.alike hK⟩⟩ rfl rfl hl.1 rfl (lv_room (Nat.le_of_ble_eq_true rfl)) dX10_firm_80 ⟨hRc, hRs⟩) hS (fun q _ h => fA_le hS.1 q h) (fA_le hS.1) (fun r9 u9 t9 H1 locs ht9 hvm9 hw9 hB9 hz9 hk9 hS => ?_)
          obtain ⟨μ3, r4⟩ := u9
          obtain ⟨hP, -⟩ := hB9
          rw [ht9] at hP
          generalize H1 = H at hP hS ⊢
          obtain ⟨e9, hw9⟩ := hw9
          have e9 : r9 = iZ r4 := e9
          subst e9
          simp only at hP hw9
          have hμ3 := hw9; clear hw9
          rw [hμ3.1] at hP; have hμ3 := hμ3.2
          refine fz_if_le (tgt := 90) (by constructor <;> omega) hx hb dX10_firm_83 (by decide) (fun c83_ => ?_) (fun c83_ => ?_)
          · refine lv_iconst (v := iZ 0) hx hb dX10_firm_90 rfl ?_
            refine lv_istore (lv' := [(5, .int (iZ (0))), (4, .int (iZ (0))), (3, .int (iZ (i))), (2, .int (iZ (n))), (1, .int (iZ (w))), (0, .ref h0)]) hx hb dX10_firm_91 hl (by decide) rfl (fun ls hl => ?_)
            refine lv_iload_n hx hb dX10_firm_93 rfl (lv_at hl 3 rfl) ?_
            refine lv_iload_n hx hb dX10_firm_94 rfl (lv_at hl 4 rfl) ?_
            refine lv_iconst (v := iZ 1) hx hb dX10_firm_95 rfl ?_
            refine fz_icmp_eq (tgt := 104) (by first | exact hw | (constructor <;> omega)) (by decide) hx hb dX10_firm_96 (by decide) (fun c96_ => ?_) (fun c96_ => ?_)
            · refine lv_iload_n hx hb dX10_firm_104 rfl (lv_at hl 4 rfl) ?_
              refine fz_if_eq (tgt := 113) (by exact hw) hx hb dX10_firm_105 (by decide) (fun c105_ => ?_) (fun c105_ => ?_)
              · refine lv_iconst (v := iZ 1) hx hb dX10_firm_113 rfl ?_
                refine lv_goto (tgt := 118) hx hb dX10_firm_114 (by decide) ?_
                refine lv_iadd hx hb dX10_firm_118 ?_
                refine lv_topi (fun x9 ex9 => ?_)
                obtain rfl : x9 = iZ (n + 1) := ex9.trans (iZ_add _ _)
                refine lv_istore_n (lv' := [(2, .int (iZ (n + 1))), (5, .int (iZ (0))), (4, .int (iZ (0))), (3, .int (iZ (i))), (1, .int (iZ (w))), (0, .ref h0)]) hx hb dX10_firm_119 rfl hl (by decide) rfl (fun ls hl => ?_)
                refine lv_iinc (v := iZ (i + 1)) (lv' := [(3, .int (iZ (i + 1))), (2, .int (iZ (n + 1))), (5, .int (iZ (0))), (4, .int (iZ (0))), (1, .int (iZ (w))), (0, .ref h0)]) hx hb dX10_firm_120 hl (k := 3) rfl (iZ_add _ _) (by decide) rfl (fun ls hl => ?_)
                refine lv_goto (tgt := 34) hx hb dX10_firm_123 (by decide) ?_
                exact ih (n + 1) (i + 1) μ H locs ls (by rfl) (by omega) (by omega) (by omega) hP hS (lv_sub hl [0, 1, 4, 5] rfl)
              · refine lv_iload hx hb dX10_firm_108 (lv_at hl 0 rfl) ?_
                refine fz_if_ne (tgt := 117) (by decide) hx hb dX10_firm_110 (by decide) (fun h9 => absurd h9 (by decide)) (fun c110_ => ?_)
                refine lv_iconst (v := iZ 1) hx hb dX10_firm_113 rfl ?_
                refine lv_goto (tgt := 118) hx hb dX10_firm_114 (by decide) ?_
                refine lv_iadd hx hb dX10_firm_118 ?_
                refine lv_topi (fun x9 ex9 => ?_)
                obtain rfl : x9 = iZ (n + 1) := ex9.trans (iZ_add _ _)
                refine lv_istore_n (lv' := [(2, .int (iZ (n + 1))), (5, .int (iZ (0))), (4, .int (iZ (0))), (3, .int (iZ (i))), (1, .int (iZ (w))), (0, .ref h0)]) hx hb dX10_firm_119 rfl hl (by decide) rfl (fun ls hl => ?_)
                refine lv_iinc (v := iZ (i + 1)) (lv' := [(3, .int (iZ (i + 1))), (2, .int (iZ (n + 1))), (5, .int (iZ (0))), (4, .int (iZ (0))), (1, .int (iZ (w))), (0, .ref h0)]) hx hb dX10_firm_120 hl (k := 3) rfl (iZ_add _ _) (by decide) rfl (fun ls hl => ?_)
                refine lv_goto (tgt := 34) hx hb dX10_firm_123 (by decide) ?_
                exact ih (n + 1) (i + 1) μ H locs ls (by rfl) (by omega) (by omega) (by omega) hP hS (lv_sub hl [0, 1, 4, 5] rfl)
            · refine lv_iload hx hb dX10_firm_99 (lv_at hl 1 rfl) ?_
              refine fz_if_ne (tgt := 117) (by decide) hx hb dX10_firm_101 (by decide) (fun h9 => absurd h9 (by decide)) (fun c101_ => ?_)
              refine lv_iload_n hx hb dX10_firm_104 rfl (lv_at hl 4 rfl) ?_
              refine fz_if_eq (tgt := 113) (by exact hw) hx hb dX10_firm_105 (by decide) (fun c105_ => ?_) (fun c105_ => ?_)
              · refine lv_iconst (v := iZ 1) hx hb dX10_firm_113 rfl ?_
                refine lv_goto (tgt := 118) hx hb dX10_firm_114 (by decide) ?_
                refine lv_iadd hx hb dX10_firm_118 ?_
                refine lv_topi (fun x9 ex9 => ?_)
                obtain rfl : x9 = iZ (n + 1) := ex9.trans (iZ_add _ _)
                refine lv_istore_n (lv' := [(2, .int (iZ (n + 1))), (5, .int (iZ (0))), (4, .int (iZ (0))), (3, .int (iZ (i))), (1, .int (iZ (w))), (0, .ref h0)]) hx hb dX10_firm_119 rfl hl (by decide) rfl (fun ls hl => ?_)
                refine lv_iinc (v := iZ (i + 1)) (lv' := [(3, .int (iZ (i + 1))), (2, .int (iZ (n + 1))), (5, .int (iZ (0))), (4, .int (iZ (0))), (1, .int (iZ (w))), (0, .ref h0)]) hx hb dX10_firm_120 hl (k := 3) rfl (iZ_add _ _) (by decide) rfl (fun ls hl => ?_)
                refine lv_goto (tgt := 34) hx hb dX10_firm_123 (by decide) ?_
                exact ih (n + 1) (i + 1) μ H locs ls (by rfl) (by omega) (by omega) (by omega) hP hS (lv_sub hl [0, 1, 4, 5] rfl)
              · refine lv_iload hx hb dX10_firm_108 (lv_at hl 0 rfl) ?_
                refine fz_if_ne (tgt := 117) (by decide) hx hb dX10_firm_110 (by decide) (fun h9 => absurd h9 (by decide)) (fun c110_ => ?_)
                refine lv_iconst (v := iZ 1) hx hb dX10_firm_113 rfl ?_
                refine lv_goto (tgt := 118) hx hb dX10_firm_114 (by decide) ?_
                refine lv_iadd hx hb dX10_firm_118 ?_
                refine lv_topi (fun x9 ex9 => ?_)
                obtain rfl : x9 = iZ (n + 1) := ex9.trans (iZ_add _ _)
                refine lv_istore_n (lv' := [(2, .int (iZ (n + 1))), (5, .int (iZ (0))), (4, .int (iZ (0))), (3, .int (iZ (i))), (1, .int (iZ (w))), (0, .ref h0)]) hx hb dX10_firm_119 rfl hl (by decide) rfl (fun ls hl => ?_)
                refine lv_iinc (v := iZ (i + 1)) (lv' := [(3, .int (iZ (i + 1))), (2, .int (iZ (n + 1))), (5, .int (iZ (0))), (4, .int (iZ (0))), (1, .int (iZ (w))), (0, .ref h0)]) hx hb dX10_firm_120 hl (k := 3) rfl (iZ_add _ _) (by decide) rfl (fun ls hl => ?_)
                refine lv_goto (tgt := 34) hx hb dX10_firm_123 (by decide) ?_
                exact ih (n + 1) (i + 1) μ H locs ls (by rfl) (by omega) (by omega) (by omega) hP hS (lv_sub hl [0, 1, 4, 5] rfl)
          · refine lv_iconst (v := iZ 1) hx hb dX10_firm_86 rfl ?_
            refine lv_goto (tgt := 91) hx hb dX10_firm_87 (by decide) ?_
            refine lv_istore (lv' := [(5, .int (iZ (1))), (4, .int (iZ (0))), (3, .int (iZ (i))), (2, .int (iZ (n))), (1, .int (iZ (w))), (0, .ref h0)]) hx hb dX10_firm_91 hl (by decide) rfl (fun ls hl => ?_)
            refine lv_iload_n hx hb dX10_firm_93 rfl (lv_at hl 3 rfl) ?_
            refine lv_iload_n hx hb dX10_firm_94 rfl (lv_at hl 4 rfl) ?_
            refine lv_iconst (v := iZ 1) hx hb dX10_firm_95 rfl ?_
            refine fz_icmp_eq (tgt := 104) (by first | exact hw | (constructor <;> omega)) (by decide) hx hb dX10_firm_96 (by decide) (fun c96_ => ?_) (fun c96_ => ?_)
            · refine lv_iload_n hx hb dX10_firm_104 rfl (lv_at hl 4 rfl) ?_
              refine fz_if_eq (tgt := 113) (by exact hw) hx hb dX10_firm_105 (by decide) (fun c105_ => ?_) (fun c105_ => ?_)
              · refine lv_iconst (v := iZ 1) hx hb dX10_firm_113 rfl ?_
                refine lv_goto (tgt := 118) hx hb dX10_firm_114 (by decide) ?_
                refine lv_iadd hx hb dX10_firm_118 ?_
                refine lv_topi (fun x9 ex9 => ?_)
                obtain rfl : x9 = iZ (n + 1) := ex9.trans (iZ_add _ _)
                refine lv_istore_n (lv' := [(2, .int (iZ (n + 1))), (5, .int (iZ (1))), (4, .int (iZ (0))), (3, .int (iZ (i))), (1, .int (iZ (w))), (0, .ref h0)]) hx hb dX10_firm_119 rfl hl (by decide) rfl (fun ls hl => ?_)
                refine lv_iinc (v := iZ (i + 1)) (lv' := [(3, .int (iZ (i + 1))), (2, .int (iZ (n + 1))), (5, .int (iZ (1))), (4, .int (iZ (0))), (1, .int (iZ (w))), (0, .ref h0)]) hx hb dX10_firm_120 hl (k := 3) rfl (iZ_add _ _) (by decide) rfl (fun ls hl => ?_)
                refine lv_goto (tgt := 34) hx hb dX10_firm_123 (by decide) ?_
                exact ih (n + 1) (i + 1) μ H locs ls (by rfl) (by omega) (by omega) (by omega) hP hS (lv_sub hl [0, 1, 4, 5] rfl)
              · refine lv_iload hx hb dX10_firm_108 (lv_at hl 0 rfl) ?_
                refine fz_if_ne (tgt := 117) (by decide) hx hb dX10_firm_110 (by decide) (fun c110_ => ?_) (fun h9 => absurd h9 (by decide))
                refine lv_iconst (v := iZ 0) hx hb dX10_firm_117 rfl ?_
                refine lv_iadd hx hb dX10_firm_118 ?_
                refine lv_topi (fun x9 ex9 => ?_)
                obtain rfl : x9 = iZ (n + 0) := ex9.trans (iZ_add _ _)
                refine lv_istore_n (lv' := [(2, .int (iZ (n + 0))), (5, .int (iZ (1))), (4, .int (iZ (0))), (3, .int (iZ (i))), (1, .int (iZ (w))), (0, .ref h0)]) hx hb dX10_firm_119 rfl hl (by decide) rfl (fun ls hl => ?_)
                refine lv_iinc (v := iZ (i + 1)) (lv' := [(3, .int (iZ (i + 1))), (2, .int (iZ (n + 0))), (5, .int (iZ (1))), (4, .int (iZ (0))), (1, .int (iZ (w))), (0, .ref h0)]) hx hb dX10_firm_120 hl (k := 3) rfl (iZ_add _ _) (by decide) rfl (fun ls hl => ?_)
                refine lv_goto (tgt := 34) hx hb dX10_firm_123 (by decide) ?_
                exact ih (n + 0) (i + 1) μ H locs ls (by rfl) (by omega) (by omega) (by omega) hP hS (lv_sub hl [0, 1, 4, 5] rfl)
            · refine lv_iload hx hb dX10_firm_99 (lv_at hl 1 rfl) ?_
              refine fz_if_ne (tgt := 117) (by decide) hx hb dX10_firm_101 (by decide) (fun h9 => absurd h9 (by decide)) (fun c101_ => ?_)
              refine lv_iload_n hx hb dX10_firm_104 rfl (lv_at hl 4 rfl) ?_
              refine fz_if_eq (tgt := 113) (by exact hw) hx hb dX10_firm_105 (by decide) (fun c105_ => ?_) (fun c105_ => ?_)
              · refine lv_iconst (v := iZ 1) hx hb dX10_firm_113 rfl ?_
                refine lv_goto (tgt := 118) hx hb dX10_firm_114 (by decide) ?_
                refine lv_iadd hx hb dX10_firm_118 ?_
                refine lv_topi (fun x9 ex9 => ?_)
                obtain rfl : x9 = iZ (n + 1) := ex9.trans (iZ_add _ _)
                refine lv_istore_n (lv' := [(2, .int (iZ (n + 1))), (5, .int (iZ (1))), (4, .int (iZ (0))), (3, .int (iZ (i))), (1, .int (iZ (w))), (0, .ref h0)]) hx hb dX10_firm_119 rfl hl (by decide) rfl (fun ls hl => ?_)
                refine lv_iinc (v := iZ (i + 1)) (lv' := [(3, .int (iZ (i + 1))), (2, .int (iZ (n + 1))), (5, .int (iZ (1))), (4, .int (iZ (0))), (1, .int (iZ (w))), (0, .ref h0)]) hx hb dX10_firm_120 hl (k := 3) rfl (iZ_add _ _) (by decide) rfl (fun ls hl => ?_)
                refine lv_goto (tgt := 34) hx hb dX10_firm_123 (by decide) ?_
                exact ih (n + 1) (i + 1) μ H locs ls (by rfl) (by omega) (by omega) (by omega) hP hS (lv_sub hl [0, 1, 4, 5] rfl)
              · refine lv_iload hx hb dX10_firm_108 (lv_at hl 0 rfl) ?_
                refine fz_if_ne (tgt := 117) (by decide) hx hb dX10_firm_110 (by decide) (fun c110_ => ?_) (fun h9 => absurd h9 (by decide))
                refine lv_iconst (v := iZ 0) hx hb dX10_firm_117 rfl ?_
                refine lv_iadd hx hb dX10_firm_118 ?_
                refine lv_topi (fun x9 ex9 => ?_)
                obtain rfl : x9 = iZ (n + 0) := ex9.trans (iZ_add _ _)
                refine lv_istore_n (lv' := [(2, .int (iZ (n + 0))), (5, .int (iZ (1))), (4, .int (iZ (0))), (3, .int (iZ (i))), (1, .int (iZ (w))), (0, .ref h0)]) hx hb dX10_firm_119 rfl hl (by decide) rfl (fun ls hl => ?_)
                refine lv_iinc (v := iZ (i + 1)) (lv' := [(3, .int (iZ (i + 1))), (2, .int (iZ (n + 0))), (5, .int (iZ (1))), (4, .int (iZ (0))), (1, .int (iZ (w))), (0, .ref h0)]) hx hb dX10_firm_120 hl (k := 3) rfl (iZ_add _ _) (by decide) rfl (fun ls hl => ?_)
                refine lv_goto (tgt := 34) hx hb dX10_firm_123 (by decide) ?_
                exact ih (n + 0) (i + 1) μ H locs ls (by rfl) (by omega) (by omega) (by omega) hP hS (lv_sub hl [0, 1, 4, 5] rfl)
        · refine lv_iconst (v := iZ 1) hx hb dX10_firm_69 rfl ?_
          refine lv_goto (tgt := 74) hx hb dX10_firm_70 (by decide) ?_
          refine lv_istore (lv' := [(4, .int (iZ (1))), (3, .int (iZ (i))), (2, .int (iZ (n))), (1, .int (iZ (w))), (0, .ref h0)]) hx hb dX10_firm_74 hl (by decide) rfl (fun ls hl => ?_)
          refine lv_aload_n hx hb dX10_firm_76 rfl (lv_at hl 4 rfl) ?_
          refine lv_iconst (v := iZ 0) hx hb dX10_firm_77 rfl ?_
          refine lv_iload_n hx hb dX10_firm_78 rfl (lv_at hl 1 rfl) ?_
          refine lv_iconst (v := iZ 4) hx hb dX10_firm_79 rfl ?_
          refine va_calli (va_runV (As := [.int (iZ (0)), .int (iZ (i)), .int (iZ (4))]) (rest := []) ⟨hx, hb, hml, hown, hts⟩ (m_depthOf l dC dI cI cZ cII cIII h0 H.size μ (0) (i) (4) (by decide) (by exact hT0) (by rw [show (0 : Int).toNat = 0 from rfl]; omega) (by constructor <;> decide)) (cwV 3 hts (gV_G k1592 k1594 ks_yX10_depthOf k13 k1595) rfl rfl rfl (by decide +kernel) ⟨by show 1 + 1 ≤ _; omega, by show 8 + (6 + 11) + (14) ≤ _; omega⟩) ⟨fun a U g mk q => by obtain ⟨q0, q1, qP, qK⟩ := q; exact ⟨q0, q1, qP, va_K.moved (u := U) (U := U.calling g mk a) (Vm.Alike.refl U.vm) qK⟩, va_recv hK hP (ci := 10) (q0 := 0) rfl ((fw_get (by decide)).trans (by rw [mE_obj]; rfl)), fun U hU hW => ⟨rfl, by rw [hU], by rw [hU]; exact hP, va_K.moved hW.alike hK⟩⟩ rfl rfl hl.1 rfl (lv_room (Nat.le_of_ble_eq_true rfl)) dX10_firm_80 ⟨hRc, hRs⟩) hS (fun q _ h => fA_le hS.1 q h) (fA_le hS.1) (fun r9 u9 t9 H1 locs ht9 hvm9 hw9 hB9 hz9 hk9 hS => ?_)
          obtain ⟨μ5, r6⟩ := u9
          obtain ⟨hP, -⟩ := hB9
          rw [ht9] at hP
          generalize H1 = H at hP hS ⊢
          obtain ⟨e9, hw9⟩ := hw9
          have e9 : r9 = iZ r6 := e9
          subst e9
          simp only at hP hw9
          have hμ5 := hw9; clear hw9
          rw [hμ5.1] at hP; have hμ5 := hμ5.2
          refine fz_if_le (tgt := 90) (by constructor <;> omega) hx hb dX10_firm_83 (by decide) (fun c83_ => ?_) (fun c83_ => ?_)
          · refine lv_iconst (v := iZ 0) hx hb dX10_firm_90 rfl ?_
            refine lv_istore (lv' := [(5, .int (iZ (0))), (4, .int (iZ (1))), (3, .int (iZ (i))), (2, .int (iZ (n))), (1, .int (iZ (w))), (0, .ref h0)]) hx hb dX10_firm_91 hl (by decide) rfl (fun ls hl => ?_)
            refine lv_iload_n hx hb dX10_firm_93 rfl (lv_at hl 3 rfl) ?_
            refine lv_iload_n hx hb dX10_firm_94 rfl (lv_at hl 4 rfl) ?_
            refine lv_iconst (v := iZ 1) hx hb dX10_firm_95 rfl ?_
            refine fz_icmp_eq (tgt := 104) (by first | exact hw | (constructor <;> omega)) (by decide) hx hb dX10_firm_96 (by decide) (fun c96_ => ?_) (fun c96_ => ?_)
            · refine lv_iload_n hx hb dX10_firm_104 rfl (lv_at hl 4 rfl) ?_
              refine fz_if_eq (tgt := 113) (by exact hw) hx hb dX10_firm_105 (by decide) (fun c105_ => ?_) (fun c105_ => ?_)
              · refine lv_iconst (v := iZ 1) hx hb dX10_firm_113 rfl ?_
                refine lv_goto (tgt := 118) hx hb dX10_firm_114 (by decide) ?_
                refine lv_iadd hx hb dX10_firm_118 ?_
                refine lv_topi (fun x9 ex9 => ?_)
                obtain rfl : x9 = iZ (n + 1) := ex9.trans (iZ_add _ _)
                refine lv_istore_n (lv' := [(2, .int (iZ (n + 1))), (5, .int (iZ (0))), (4, .int (iZ (1))), (3, .int (iZ (i))), (1, .int (iZ (w))), (0, .ref h0)]) hx hb dX10_firm_119 rfl hl (by decide) rfl (fun ls hl => ?_)
                refine lv_iinc (v := iZ (i + 1)) (lv' := [(3, .int (iZ (i + 1))), (2, .int (iZ (n + 1))), (5, .int (iZ (0))), (4, .int (iZ (1))), (1, .int (iZ (w))), (0, .ref h0)]) hx hb dX10_firm_120 hl (k := 3) rfl (iZ_add _ _) (by decide) rfl (fun ls hl => ?_)
                refine lv_goto (tgt := 34) hx hb dX10_firm_123 (by decide) ?_
                exact ih (n + 1) (i + 1) μ H locs ls (by rfl) (by omega) (by omega) (by omega) hP hS (lv_sub hl [0, 1, 4, 5] rfl)
              · refine lv_iload hx hb dX10_firm_108 (lv_at hl 0 rfl) ?_
                refine fz_if_ne (tgt := 117) (by decide) hx hb dX10_firm_110 (by decide) (fun h9 => absurd h9 (by decide)) (fun c110_ => ?_)
                refine lv_iconst (v := iZ 1) hx hb dX10_firm_113 rfl ?_
                refine lv_goto (tgt := 118) hx hb dX10_firm_114 (by decide) ?_
                refine lv_iadd hx hb dX10_firm_118 ?_
                refine lv_topi (fun x9 ex9 => ?_)
                obtain rfl : x9 = iZ (n + 1) := ex9.trans (iZ_add _ _)
                refine lv_istore_n (lv' := [(2, .int (iZ (n + 1))), (5, .int (iZ (0))), (4, .int (iZ (1))), (3, .int (iZ (i))), (1, .int (iZ (w))), (0, .ref h0)]) hx hb dX10_firm_119 rfl hl (by decide) rfl (fun ls hl => ?_)
                refine lv_iinc (v := iZ (i + 1)) (lv' := [(3, .int (iZ (i + 1))), (2, .int (iZ (n + 1))), (5, .int (iZ (0))), (4, .int (iZ (1))), (1, .int (iZ (w))), (0, .ref h0)]) hx hb dX10_firm_120 hl (k := 3) rfl (iZ_add _ _) (by decide) rfl (fun ls hl => ?_)
                refine lv_goto (tgt := 34) hx hb dX10_firm_123 (by decide) ?_
                exact ih (n + 1) (i + 1) μ H locs ls (by rfl) (by omega) (by omega) (by omega) hP hS (lv_sub hl [0, 1, 4, 5] rfl)
            · refine lv_iload hx hb dX10_firm_99 (lv_at hl 1 rfl) ?_
              refine fz_if_ne (tgt := 117) (by decide) hx hb dX10_firm_101 (by decide) (fun c101_ => ?_) (fun h9 => absurd h9 (by decide))
              refine lv_iconst (v := iZ 0) hx hb dX10_firm_117 rfl ?_
              refine lv_iadd hx hb dX10_firm_118 ?_
              refine lv_topi (fun x9 ex9 => ?_)
              obtain rfl : x9 = iZ (n + 0) := ex9.trans (iZ_add _ _)
              refine lv_istore_n (lv' := [(2, .int (iZ (n + 0))), (5, .int (iZ (0))), (4, .int (iZ (1))), (3, .int (iZ (i))), (1, .int (iZ (w))), (0, .ref h0)]) hx hb dX10_firm_119 rfl hl (by decide) rfl (fun ls hl => ?_)
              refine lv_iinc (v := iZ (i + 1)) (lv' := [(3, .int (iZ (i + 1))), (2, .int (iZ (n + 0))), (5, .int (iZ (0))), (4, .int (iZ (1))), (1, .int (iZ (w))), (0, .ref h0)]) hx hb dX10_firm_120 hl (k := 3) rfl (iZ_add _ _) (by decide) rfl (fun ls hl => ?_)
              refine lv_goto (tgt := 34) hx hb dX10_firm_123 (by decide) ?_
              exact ih (n + 0) (i + 1) μ H locs ls (by rfl) (by omega) (by omega) (by omega) hP hS (lv_sub hl [0, 1, 4, 5] rfl)
          · refine lv_iconst (v := iZ 1) hx hb dX10_firm_86 rfl ?_
            refine lv_goto (tgt := 91) hx hb dX10_firm_87 (by decide) ?_
            refine lv_istore (lv' := [(5, .int (iZ (1))), (4, .int (iZ (1))), (3, .int (iZ (i))), (2, .int (iZ (n))), (1, .int (iZ (w))), (0, .ref h0)]) hx hb dX10_firm_91 hl (by decide) rfl (fun ls hl => ?_)
            refine lv_iload_n hx hb dX10_firm_93 rfl (lv_at hl 3 rfl) ?_
            refine lv_iload_n hx hb dX10_firm_94 rfl (lv_at hl 4 rfl) ?_
            refine lv_iconst (v := iZ 1) hx hb dX10_firm_95 rfl ?_
            refine fz_icmp_eq (tgt := 104) (by first | exact hw | (constructor <;> omega)) (by decide) hx hb dX10_firm_96 (by decide) (fun c96_ => ?_) (fun c96_ => ?_)
            · refine lv_iload_n hx hb dX10_firm_104 rfl (lv_at hl 4 rfl) ?_
              refine fz_if_eq (tgt := 113) (by exact hw) hx hb dX10_firm_105 (by decide) (fun c105_ => ?_) (fun c105_ => ?_)
              · refine lv_iconst (v := iZ 1) hx hb dX10_firm_113 rfl ?_
                refine lv_goto (tgt := 118) hx hb dX10_firm_114 (by decide) ?_
                refine lv_iadd hx hb dX10_firm_118 ?_
                refine lv_topi (fun x9 ex9 => ?_)
                obtain rfl : x9 = iZ (n + 1) := ex9.trans (iZ_add _ _)
                refine lv_istore_n (lv' := [(2, .int (iZ (n + 1))), (5, .int (iZ (1))), (4, .int (iZ (1))), (3, .int (iZ (i))), (1, .int (iZ (w))), (0, .ref h0)]) hx hb dX10_firm_119 rfl hl (by decide) rfl (fun ls hl => ?_)
                refine lv_iinc (v := iZ (i + 1)) (lv' := [(3, .int (iZ (i + 1))), (2, .int (iZ (n + 1))), (5, .int (iZ (1))), (4, .int (iZ (1))), (1, .int (iZ (w))), (0, .ref h0)]) hx hb dX10_firm_120 hl (k := 3) rfl (iZ_add _ _) (by decide) rfl (fun ls hl => ?_)
                refine lv_goto (tgt := 34) hx hb dX10_firm_123 (by decide) ?_
                exact ih (n + 1) (i + 1) μ H locs ls (by rfl) (by omega) (by omega) (by omega) hP hS (lv_sub hl [0, 1, 4, 5] rfl)
              · refine lv_iload hx hb dX10_firm_108 (lv_at hl 0 rfl) ?_
                refine fz_if_ne (tgt := 117) (by decide) hx hb dX10_firm_110 (by decide) (fun c110_ => ?_) (fun h9 => absurd h9 (by decide))
                refine lv_iconst (v := iZ 0) hx hb dX10_firm_117 rfl ?_
                refine lv_iadd hx hb dX10_firm_118 ?_
                refine lv_topi (fun x9 ex9 => ?_)
                obtain rfl : x9 = iZ (n + 0) := ex9.trans (iZ_add _ _)
                refine lv_istore_n (lv' := [(2, .int (iZ (n + 0))), (5, .int (iZ (1))), (4, .int (iZ (1))), (3, .int (iZ (i))), (1, .int (iZ (w))), (0, .ref h0)]) hx hb dX10_firm_119 rfl hl (by decide) rfl (fun ls hl => ?_)
                refine lv_iinc (v := iZ (i + 1)) (lv' := [(3, .int (iZ (i + 1))), (2, .int (iZ (n + 0))), (5, .int (iZ (1))), (4, .int (iZ (1))), (1, .int (iZ (w))), (0, .ref h0)]) hx hb dX10_firm_120 hl (k := 3) rfl (iZ_add _ _) (by decide) rfl (fun ls hl => ?_)
                refine lv_goto (tgt := 34) hx hb dX10_firm_123 (by decide) ?_
                exact ih (n + 0) (i + 1) μ H locs ls (by rfl) (by omega) (by omega) (by omega) hP hS (lv_sub hl [0, 1, 4, 5] rfl)
            · refine lv_iload hx hb dX10_firm_99 (lv_at hl 1 rfl) ?_
              refine fz_if_ne (tgt := 117) (by decide) hx hb dX10_firm_101 (by decide) (fun c101_ => ?_) (fun h9 => absurd h9 (by decide))
              refine lv_iconst (v := iZ 0) hx hb dX10_firm_117 rfl ?_
              refine lv_iadd hx hb dX10_firm_118 ?_
              refine lv_topi (fun x9 ex9 => ?_)
              obtain rfl : x9 = iZ (n + 0) := ex9.trans (iZ_add _ _)
              refine lv_istore_n (lv' := [(2, .int (iZ (n + 0))), (5, .int (iZ (1))), (4, .int (iZ (1))), (3, .int (iZ (i))), (1, .int (iZ (w))), (0, .ref h0)]) hx hb dX10_firm_119 rfl hl (by decide) rfl (fun ls hl => ?_)
              refine lv_iinc (v := iZ (i + 1)) (lv' := [(3, .int (iZ (i + 1))), (2, .int (iZ (n + 0))), (5, .int (iZ (1))), (4, .int (iZ (1))), (1, .int (iZ (w))), (0, .ref h0)]) hx hb dX10_firm_120 hl (k := 3) rfl (iZ_add _ _) (by decide) rfl (fun ls hl => ?_)
              refine lv_goto (tgt := 34) hx hb dX10_firm_123 (by decide) ?_
              exact ih (n + 0) (i + 1) μ H locs ls (by rfl) (by omega) (by omega) (by omega) hP hS (lv_sub hl [0, 1, 4, 5] rfl)
      · refine lv_goto (tgt := 120) hx hb dX10_firm_56 (by decide) ?_
        refine lv_iinc (v := iZ (i + 1)) (lv' := [(3, .int (iZ (i + 1))), (2, .int (iZ (n))), (1, .int (iZ (w))), (0, .ref h0)]) hx hb dX10_firm_120 hl (k := 0) rfl (iZ_add _ _) (by decide) rfl (fun ls hl => ?_)
        refine lv_goto (tgt := 34) hx hb dX10_firm_123 (by decide) ?_
        exact ih (n) (i + 1) μ H locs ls (by rfl) (by omega) (by omega) (by omega) hP hS (lv_sub hl [0, 1, 2, 3] rfl)
set_option maxHeartbeats 4000000 in
set_option maxRecDepth 100000 in
theorem m_firm (l : Launch) (dC : Nat → ClassId) (dI : Nat → Nat → Nat) (cI cZ cII cIII : ClassId) (h0 sz : Nat) (μ : va_M) (w : Int) (hQ : RQ μ) (hw9 : inR w) : Met l yX10_firm (Cond.code yX10_firm cX10_firm 6 (some .int) :: wsG) ({ frames := 2, cells := 0, slots := 0, locals := 39 } : Room) (va_Pc [.ref h0, .int (iZ (w))] (fun U => U.heap.size = sz ∧ va_P (dC, dI) vwCl (fw (mE cI cZ cII cIII h0) h0 6325 μ) U.heap ∧ va_K (dC, dI) vwCl (mT cI cZ cII cIII) U)) (va_Qi (fun (r9 : Int32) (u : va_M × Int) => r9 = iZ u.2 ∧ (fun (u : va_M) (r : Int) => fr PS μ u ∧ (u 0 0 = 0 ∨ u 0 0 = 1 ∨ u 0 0 = 2)) u.1 u.2) (fun u t => va_P (dC, dI) vwCl (fw (mE cI cZ cII cIII h0) h0 6325 u.1) t.heap ∧ va_K (dC, dI) vwCl (mT cI cZ cII cIII) t) (fA h0 6325 sz)) 0 0 (fA h0 6325 sz) := by
  refine Met.ofW (cc := cX10_firm) (maxL := 6) (ret := (some .int)) (by decide) rfl ?_
  intro p e s m args below meth c s₁ B hml hv
  obtain ⟨rfl, hsz, hP, hK⟩ := hv
  have hx := B.exec
  have hb := B.bytes
  have hr := B.returns
  have hts : ∀ w ∈ wsG, w.before _ s = true := hG_of (atoms_spec (ws := (Cond.code yX10_firm cX10_firm 6 (some .int) :: wsG)) B.pre)
  have hown : s.vm.findClass RX10 = some m.cls := findClass_of_methodNamed B.named
  have hlocks := B.notSynchronized
  subst hsz
  have hS : va_S (fA h0 6325 s.heap.size) s.heap s.heap [] := va_S.rf
  have hl := lv_entry ([.ref h0, .int (iZ (w))]) (n := 6) (Nat.le_of_ble_eq_true rfl)
  rw [lg_entry_eq]
  generalize (lg_sl ([.ref h0, .int (iZ (w))]) ++ List.replicate (6 - (lg_sl ([.ref h0, .int (iZ (w))])).length) Slot.unset).toArray = ls at hl ⊢
  have hl : lv_has ls 6 [(0, .ref h0), (1, .int (iZ (w)))] := hl
  refine lv_aload_n hx hb dX10_firm_0 rfl (lv_at hl 0 rfl) ?_
  refine lv_iconst (v := iZ 0) hx hb dX10_firm_1 rfl ?_
  refine fz_put (D := (dC, dI)) (ci := 10) (ty := .int) (z := 0) (C := RX10) (T := TX10) (N := 53) hx hb hts inG10 tyX10 tyX10_ok nmX10 hown hK hP fA_in hS (k := 0) (by decide) (F := mF h0) mE_obj rfl 0 (by decide) (hts _ k1166) (fun _ h9 => h9) rfl (by decide +kernel) rfl rfl (fun _ => Nat.le_of_ble_eq_true rfl) (fun _ _ => rfl) dX10_firm_2 (fun H locs hP hS => ?_)
  obtain ⟨μ7, eμ7⟩ : ∃ x : va_M, x = uz μ 0 0 (0) := ⟨_, rfl⟩
  rw [← eμ7] at hP
  have hfr : fr PS μ μ7 := by rw [eμ7]; exact fr_uz fr_rfl (by unfold PS; omega)
  have ht0 : μ7 0 0 = 0 := by rw [eμ7, uz_s]
  have e10 := hfr 0 10 (PS_n (by omega))
  have e9 := hfr 0 9 (PS_n (by omega))
  have e71 := hfr 719 0 (PS_n (by omega))
  have hQ1 := RQ_fr hQ hfr
  have hQc := hQ
  obtain ⟨f10, ⟨fT, fTb, fTw⟩, fS3, fPg, fw9, fwB, fwT⟩ := hQc
  obtain ⟨g10, ⟨gT, gTb, gTw⟩, gS3, gPg, gw, gwB, gwT⟩ := hQ1
  have gtk := TR_tok gwT gwB.1 gwB.2.1
  have gt1 := gtk.1
  have gt2 := gtk.2.1
  refine lv_aload_n hx hb dX10_firm_5 rfl (lv_at hl 0 rfl) ?_
  refine lv_iload_n hx hb dX10_firm_6 rfl (lv_at hl 1 rfl) ?_
  refine lv_iconst (v := iZ 0) hx hb dX10_firm_7 rfl ?_
  refine lv_iconst (v := iZ 2) hx hb dX10_firm_8 rfl ?_
  refine va_calli (va_runS (As := [.int (iZ (w)), .int (iZ (0)), .int (iZ (2))]) (rest := [.ref h0]) ⟨hx, hb, hml, hown, hts⟩ (m_in l dC dI cI cZ cII cIII h0 H.size μ7 (w) (0) (2) (by first | assumption | omega | exact ⟨by omega, by omega⟩) (by first | assumption | omega | exact ⟨by omega, by omega⟩) (by first | assumption | omega | exact ⟨by omega, by omega⟩)) (cwS 3 hts (gS_G k1335 k1336 k13 k1337) rfl rfl rfl (by decide +kernel) ⟨Nat.le_of_ble_eq_true rfl, Nat.le_of_ble_eq_true rfl⟩) ⟨fun a U g mk q => by obtain ⟨q0, q1, qP, qK⟩ := q; exact ⟨q0, q1, qP, va_K.moved (u := U) (U := U.calling g mk a) (Vm.Alike.refl U.vm) qK⟩, fun U hU hW => ⟨rfl, by rw [hU], by rw [hU]; exact hP, va_K.moved hW.alike hK⟩⟩ rfl rfl hl.1 rfl (lv_room (Nat.le_of_ble_eq_true rfl)) dX10_firm_9 ⟨Nat.le_of_ble_eq_true rfl, Nat.le_of_ble_eq_true rfl⟩) hS (fun q _ h => fA_le hS.1 q h) (fA_le hS.1) (fun r9 u9 t9 H1 locs ht9 hvm9 hw9 hB9 hz9 hk9 hS => ?_)
  obtain ⟨μ8, r10⟩ := u9
  obtain ⟨hP, -⟩ := hB9
  rw [ht9] at hP
  generalize H1 = H at hP hS ⊢
  obtain ⟨e9, hw9⟩ := hw9
  have e9 : r9 = iZ r10 := e9
  subst e9
  simp only at hP hw9
  have hμ8 := hw9; clear hw9
  rw [hμ8.1] at hP; have hμ8 := hμ8.2
  have hin := hμ8
  have hin2 := if_01 hμ8
  refine fz_if_ne (tgt := 19) (by constructor <;> omega) hx hb dX10_firm_12 (by decide) (fun c12_ => ?_) (fun c12_ => ?_)
  · have hkk := if_get hin (by omega)
    refine lv_iconst (v := iZ 0) hx hb dX10_firm_19 rfl ?_
    refine lv_iconst (v := iZ 1) hx hb dX10_firm_20 rfl ?_
    refine lv_iconst (v := iZ 1) hx hb dX10_firm_21 rfl ?_
    refine va_calli (va_runV (As := [.int (iZ (0)), .int (iZ (1)), .int (iZ (1))]) (rest := []) ⟨hx, hb, hml, hown, hts⟩ (m_bad2 l dC dI cI cZ cII cIII h0 H.size μ7 (0) (1) (1) (by first | assumption | omega | exact ⟨by omega, by omega⟩) (by first | assumption | omega | exact ⟨by omega, by omega⟩) (by first | assumption | omega | exact ⟨by omega, by omega⟩) (by first | assumption | omega | exact ⟨by omega, by omega⟩)) (cwV 3 hts (gV_G k1338 k1340 ks_yX10_bad k13 k1341) rfl rfl rfl (by decide +kernel) ⟨Nat.le_of_ble_eq_true rfl, Nat.le_of_ble_eq_true rfl⟩) ⟨fun a U g mk q => by obtain ⟨q0, q1, qP, qK⟩ := q; exact ⟨q0, q1, qP, va_K.moved (u := U) (U := U.calling g mk a) (Vm.Alike.refl U.vm) qK⟩, va_recv hK hP (ci := 10) (q0 := 0) rfl ((fw_get (by decide)).trans (by rw [mE_obj]; rfl)), fun U hU hW => ⟨rfl, by rw [hU], by rw [hU]; exact hP, va_K.moved hW.alike hK⟩⟩ rfl rfl hl.1 rfl (lv_room (Nat.le_of_ble_eq_true rfl)) dX10_firm_22 ⟨Nat.le_of_ble_eq_true rfl, Nat.le_of_ble_eq_true rfl⟩) hS (fun q _ h => fA_le hS.1 q h) (fA_le hS.1) (fun r9 u9 t9 H1 locs ht9 hvm9 hw9 hB9 hz9 hk9 hS => ?_)
    obtain ⟨μ11, r12⟩ := u9
    obtain ⟨hP, -⟩ := hB9
    rw [ht9] at hP
    generalize H1 = H at hP hS ⊢
    obtain ⟨e9, hw9⟩ := hw9
    have e9 : r9 = iZ r12 := e9
    subst e9
    simp only at hP hw9
    have hμ11 := hw9; clear hw9
    have hfr := fr_trans hfr (badP_fr hμ11)
    have hrb := badP_r hμ11
    obtain rfl : r12 = 0 := by omega
    refine fz_if_eq (tgt := 30) (by decide) hx hb dX10_firm_25 (by decide) (fun c25_ => ?_) (fun h9 => absurd h9 (by decide))
    have hQ2 := RQ_fr hQ hfr
    obtain ⟨k10, ⟨kT, kTb, kTw⟩, kS3, kPg, kw, kwB, kwT⟩ := hQ2
    have e10k := hfr 0 10 (PS_n (by omega))
    have e9k := hfr 0 9 (PS_n (by omega))
    have e71k := hfr 719 0 (PS_n (by omega))
    have ktk := TR_tok kwT kwB.1 kwB.2.1
    have kt1 := ktk.1
    have kt2 := ktk.2.1
    refine lv_iconst (v := iZ 0) hx hb dX10_firm_30 rfl ?_
    refine lv_istore_n (lv' := [(2, .int (iZ (0))), (0, .ref h0), (1, .int (iZ (w)))]) hx hb dX10_firm_31 rfl hl (by decide) rfl (fun ls hl => ?_)
    refine lv_iconst (v := iZ 0) hx hb dX10_firm_32 rfl ?_
    refine lv_istore_n (lv' := [(3, .int (iZ (0))), (2, .int (iZ (0))), (0, .ref h0), (1, .int (iZ (w)))]) hx hb dX10_firm_33 rfl hl (by decide) rfl (fun ls hl => ?_)
    refine LX10_firm_34 hx hb hml hown hts hK (Nat.le_of_ble_eq_true rfl) (Nat.le_of_ble_eq_true rfl) (Nat.le_of_ble_eq_true rfl) (Nat.le_of_ble_eq_true rfl) (μ11) (w) (by exact ktk) (by exact hw9) ?_ _ (0) (0) μ11 H locs ls (by rfl) (by omega) (by omega) (Nat.lt_succ_self _) hP hS (lv_sub hl [0, 1, 3, 2] rfl)
    · intro n_13 i_13 μ13_ H locs ls q1_13 hP hS hl
      have hl : lv_has ls 6 [(2, .int (iZ (n_13)))] := hl
      refine lv_iload_n hx hb dX10_firm_126 rfl (lv_at hl 0 rfl) ?_
      exact W.iret (v := iZ (n_13)) hx hb hr (fun t9 ht9 hW9 => ⟨⟨iZ (n_13), (μ13_, n_13), rfl, ⟨rfl, (by
                    dsimp only
                    rw [q1_13]; exact ⟨hfr, by omega⟩)⟩, by rw [ht9]; exact hP, va_K.moved hW9.alike hK⟩, hS.F ht9⟩) hS.2.2 dX10_firm_127
  · refine lv_iconst (v := iZ 1) hx hb dX10_firm_15 rfl ?_
    refine lv_goto (tgt := 20) hx hb dX10_firm_16 (by decide) ?_
    refine lv_iconst (v := iZ 1) hx hb dX10_firm_20 rfl ?_
    refine lv_iconst (v := iZ 1) hx hb dX10_firm_21 rfl ?_
    refine va_calli (va_runV (As := [.int (iZ (1)), .int (iZ (1)), .int (iZ (1))]) (rest := []) ⟨hx, hb, hml, hown, hts⟩ (m_bad2 l dC dI cI cZ cII cIII h0 H.size μ7 (1) (1) (1) (by first | assumption | omega | exact ⟨by omega, by omega⟩) (by first | assumption | omega | exact ⟨by omega, by omega⟩) (by first | assumption | omega | exact ⟨by omega, by omega⟩) (by first | assumption | omega | exact ⟨by omega, by omega⟩)) (cwV 3 hts (gV_G k1338 k1340 ks_yX10_bad k13 k1341) rfl rfl rfl (by decide +kernel) ⟨Nat.le_of_ble_eq_true rfl, Nat.le_of_ble_eq_true rfl⟩) ⟨fun a U g mk q => by obtain ⟨q0, q1, qP, qK⟩ := q; exact ⟨q0, q1, qP, va_K.moved (u := U) (U := U.calling g mk a) (Vm.Alike.refl U.vm) qK⟩, va_recv hK hP (ci := 10) (q0 := 0) rfl ((fw_get (by decide)).trans (by rw [mE_obj]; rfl)), fun U hU hW => ⟨rfl, by rw [hU], by rw [hU]; exact hP, va_K.moved hW.alike hK⟩⟩ rfl rfl hl.1 rfl (lv_room (Nat.le_of_ble_eq_true rfl)) dX10_firm_22 ⟨Nat.le_of_ble_eq_true rfl, Nat.le_of_ble_eq_true rfl⟩) hS (fun q _ h => fA_le hS.1 q h) (fA_le hS.1) (fun r9 u9 t9 H1 locs ht9 hvm9 hw9 hB9 hz9 hk9 hS => ?_)
    obtain ⟨μ14, r15⟩ := u9
    obtain ⟨hP, -⟩ := hB9
    rw [ht9] at hP
    generalize H1 = H at hP hS ⊢
    obtain ⟨e9, hw9⟩ := hw9
    have e9 : r9 = iZ r15 := e9
    subst e9
    simp only at hP hw9
    have hμ14 := hw9; clear hw9
    have hfr := fr_trans hfr (badP_fr hμ14)
    have hrb := badP_r hμ14
    obtain rfl : r15 = 1 := by omega
    refine fz_if_eq (tgt := 30) (by decide) hx hb dX10_firm_25 (by decide) (fun h9 => absurd h9 (by decide)) (fun c25_ => ?_)
    refine lv_iconst (v := iZ 0) hx hb dX10_firm_28 rfl ?_
    exact W.iret (v := iZ (0)) hx hb hr (fun t9 ht9 hW9 => ⟨⟨iZ (0), (μ14, 0), rfl, ⟨rfl, (by
                dsimp only
                exact ⟨hfr, by omega⟩)⟩, by rw [ht9]; exact hP, va_K.moved hW9.alike hK⟩, hS.F ht9⟩) hS.2.2 dX10_firm_29
set_option maxHeartbeats 4000000 in
set_option maxRecDepth 100000 in
theorem m_alike (l : Launch) (dC : Nat → ClassId) (dI : Nat → Nat → Nat) (cI cZ cII cIII : ClassId) (h0 sz : Nat) (μ : va_M) (i : Int) (j : Int) (hQ : RQ μ) (hi9 : inR i) (hj9 : inR j) : Met l yX10_alike (Cond.code yX10_alike cX10_alike 3 (some .boolean) :: wsG) ({ frames := 24, cells := 0, slots := 0, locals := 727 } : Room) (va_Pc [.ref h0, .int (iZ (i)), .int (iZ (j))] (fun U => U.heap.size = sz ∧ va_P (dC, dI) vwCl (fw (mE cI cZ cII cIII h0) h0 6325 μ) U.heap ∧ va_K (dC, dI) vwCl (mT cI cZ cII cIII) U)) (va_Qi (fun (r9 : Int32) (u : va_M × Int) => r9 = iZ u.2 ∧ (fun (u : va_M) (r : Int) => fr PS μ u ∧ (u 0 0 = 0 ∨ u 0 0 = 1 ∨ u 0 0 = 2)) u.1 u.2) (fun u t => va_P (dC, dI) vwCl (fw (mE cI cZ cII cIII h0) h0 6325 u.1) t.heap ∧ va_K (dC, dI) vwCl (mT cI cZ cII cIII) t) (fA h0 6325 sz)) 0 0 (fA h0 6325 sz) := by
  refine Met.ofW (cc := cX10_alike) (maxL := 3) (ret := (some .boolean)) (by decide) rfl ?_
  intro p e s m args below meth c s₁ B hml hv
  obtain ⟨rfl, hsz, hP, hK⟩ := hv
  have hx := B.exec
  have hb := B.bytes
  have hr := B.returns
  have hts : ∀ w ∈ wsG, w.before _ s = true := hG_of (atoms_spec (ws := (Cond.code yX10_alike cX10_alike 3 (some .boolean) :: wsG)) B.pre)
  have hown : s.vm.findClass RX10 = some m.cls := findClass_of_methodNamed B.named
  have hlocks := B.notSynchronized
  subst hsz
  have hS : va_S (fA h0 6325 s.heap.size) s.heap s.heap [] := va_S.rf
  have hl := lv_entry ([.ref h0, .int (iZ (i)), .int (iZ (j))]) (n := 3) (Nat.le_of_ble_eq_true rfl)
  rw [lg_entry_eq]
  generalize (lg_sl ([.ref h0, .int (iZ (i)), .int (iZ (j))]) ++ List.replicate (3 - (lg_sl ([.ref h0, .int (iZ (i)), .int (iZ (j))])).length) Slot.unset).toArray = ls at hl ⊢
  have hl : lv_has ls 3 [(0, .ref h0), (1, .int (iZ (i))), (2, .int (iZ (j)))] := hl
  refine lv_aload_n hx hb dX10_alike_0 rfl (lv_at hl 0 rfl) ?_
  refine lv_iconst (v := iZ 0) hx hb dX10_alike_1 rfl ?_
  refine fz_put (D := (dC, dI)) (ci := 10) (ty := .int) (z := 0) (C := RX10) (T := TX10) (N := 53) hx hb hts inG10 tyX10 tyX10_ok nmX10 hown hK hP fA_in hS (k := 0) (by decide) (F := mF h0) mE_obj rfl 0 (by decide) (hts _ k1166) (fun _ h9 => h9) rfl (by decide +kernel) rfl rfl (fun _ => Nat.le_of_ble_eq_true rfl) (fun _ _ => rfl) dX10_alike_2 (fun H locs hP hS => ?_)
  obtain ⟨μ1, eμ1⟩ : ∃ x : va_M, x = uz μ 0 0 (0) := ⟨_, rfl⟩
  rw [← eμ1] at hP
  have hfr : fr PS μ μ1 := by rw [eμ1]; exact fr_uz fr_rfl (by unfold PS; omega)
  have ht0 : μ1 0 0 = 0 := by rw [eμ1, uz_s]
  have e10 := hfr 0 10 (PS_n (by omega))
  have e9 := hfr 0 9 (PS_n (by omega))
  have e71 := hfr 719 0 (PS_n (by omega))
  have hQ1 := RQ_fr hQ hfr
  have hQc := hQ
  obtain ⟨f10, ⟨fT, fTb, fTw⟩, fS3, fPg, fw9, fwB, fwT⟩ := hQc
  obtain ⟨g10, ⟨gT, gTb, gTw⟩, gS3, gPg, gw, gwB, gwT⟩ := hQ1
  have gtk := TR_tok gwT gwB.1 gwB.2.1
  have gt1 := gtk.1
  have gt2 := gtk.2.1
  refine lv_aload_n hx hb dX10_alike_5 rfl (lv_at hl 0 rfl) ?_
  refine lv_aload_n hx hb dX10_alike_6 rfl (lv_at hl 0 rfl) ?_
  refine lv_iload_n hx hb dX10_alike_7 rfl (lv_at hl 1 rfl) ?_
  refine va_calli (va_runV (As := [.int (iZ (i))]) (rest := [.ref h0]) ⟨hx, hb, hml, hown, hts⟩ (m_isNode l dC dI cI cZ cII cIII h0 H.size μ1 (i) (by first | assumption | omega | exact ⟨by omega, by omega⟩) (by first | assumption | omega | exact ⟨by omega, by omega⟩)) (cwV 1 hts (gV_G k1619 k1621 ks_yX10_isNode k13 k1622) rfl rfl rfl (by decide +kernel) ⟨Nat.le_of_ble_eq_true rfl, Nat.le_of_ble_eq_true rfl⟩) ⟨fun a U g mk q => by obtain ⟨q0, q1, qP, qK⟩ := q; exact ⟨q0, q1, qP, va_K.moved (u := U) (U := U.calling g mk a) (Vm.Alike.refl U.vm) qK⟩, va_recv hK hP (ci := 10) (q0 := 0) rfl ((fw_get (by decide)).trans (by rw [mE_obj]; rfl)), fun U hU hW => ⟨rfl, by rw [hU], by rw [hU]; exact hP, va_K.moved hW.alike hK⟩⟩ rfl rfl hl.1 rfl (lv_room (Nat.le_of_ble_eq_true rfl)) dX10_alike_8 ⟨Nat.le_of_ble_eq_true rfl, Nat.le_of_ble_eq_true rfl⟩) hS (fun q _ h => fA_le hS.1 q h) (fA_le hS.1) (fun r9 u9 t9 H1 locs ht9 hvm9 hw9 hB9 hz9 hk9 hS => ?_)
  obtain ⟨μ2, r3⟩ := u9
  obtain ⟨hP, -⟩ := hB9
  rw [ht9] at hP
  generalize H1 = H at hP hS ⊢
  obtain ⟨e9, hw9⟩ := hw9
  have e9 : r9 = iZ r3 := e9
  subst e9
  simp only at hP hw9
  have hμ2 := hw9; clear hw9
  rw [hμ2.1] at hP; have hμ2 := hμ2.2
  have hin := hμ2
  have hin2 := if_01 hμ2
  refine fz_if_eq (tgt := 22) (by constructor <;> omega) hx hb dX10_alike_11 (by decide) (fun c11_ => ?_) (fun c11_ => ?_)
  · refine lv_iconst (v := iZ 1) hx hb dX10_alike_22 rfl ?_
    refine lv_goto (tgt := 27) hx hb dX10_alike_23 (by decide) ?_
    refine lv_iconst (v := iZ 1) hx hb dX10_alike_27 rfl ?_
    refine lv_iconst (v := iZ 0) hx hb dX10_alike_28 rfl ?_
    refine va_calli (va_runV (As := [.int (iZ (1)), .int (iZ (1)), .int (iZ (0))]) (rest := []) ⟨hx, hb, hml, hown, hts⟩ (m_bad2 l dC dI cI cZ cII cIII h0 H.size μ1 (1) (1) (0) (by first | assumption | omega | exact ⟨by omega, by omega⟩) (by first | assumption | omega | exact ⟨by omega, by omega⟩) (by first | assumption | omega | exact ⟨by omega, by omega⟩) (by first | assumption | omega | exact ⟨by omega, by omega⟩)) (cwV 3 hts (gV_G k1338 k1340 ks_yX10_bad k13 k1341) rfl rfl rfl (by decide +kernel) ⟨Nat.le_of_ble_eq_true rfl, Nat.le_of_ble_eq_true rfl⟩) ⟨fun a U g mk q => by obtain ⟨q0, q1, qP, qK⟩ := q; exact ⟨q0, q1, qP, va_K.moved (u := U) (U := U.calling g mk a) (Vm.Alike.refl U.vm) qK⟩, va_recv hK hP (ci := 10) (q0 := 0) rfl ((fw_get (by decide)).trans (by rw [mE_obj]; rfl)), fun U hU hW => ⟨rfl, by rw [hU], by rw [hU]; exact hP, va_K.moved hW.alike hK⟩⟩ rfl rfl hl.1 rfl (lv_room (Nat.le_of_ble_eq_true rfl)) dX10_alike_29 ⟨Nat.le_of_ble_eq_true rfl, Nat.le_of_ble_eq_true rfl⟩) hS (fun q _ h => fA_le hS.1 q h) (fA_le hS.1) (fun r9 u9 t9 H1 locs ht9 hvm9 hw9 hB9 hz9 hk9 hS => ?_)
    obtain ⟨μ4, r5⟩ := u9
    obtain ⟨hP, -⟩ := hB9
    rw [ht9] at hP
    generalize H1 = H at hP hS ⊢
    obtain ⟨e9, hw9⟩ := hw9
    have e9 : r9 = iZ r5 := e9
    subst e9
    simp only at hP hw9
    have hμ4 := hw9; clear hw9
    have hfr := fr_trans hfr (badP_fr hμ4)
    have hrb := badP_r hμ4
    obtain rfl : r5 = 1 := by omega
    refine fz_if_eq (tgt := 37) (by decide) hx hb dX10_alike_32 (by decide) (fun h9 => absurd h9 (by decide)) (fun c32_ => ?_)
    refine lv_iconst (v := iZ 0) hx hb dX10_alike_35 rfl ?_
    exact W.zret (v := iZ (0)) hx hb hr (by exact fz_narZ (by omega)) (fun t9 ht9 hW9 => ⟨⟨iZ (0), (μ4, 0), rfl, ⟨rfl, (by
                dsimp only
                exact ⟨hfr, by omega⟩)⟩, by rw [ht9]; exact hP, va_K.moved hW9.alike hK⟩, hS.F ht9⟩) hS.2.2 dX10_alike_36
  · have hi5 := if_get hin (by omega)
    refine lv_aload_n hx hb dX10_alike_14 rfl (lv_at hl 0 rfl) ?_
    refine lv_iload_n hx hb dX10_alike_15 rfl (lv_at hl 2 rfl) ?_
    refine va_calli (va_runV (As := [.int (iZ (j))]) (rest := [.ref h0]) ⟨hx, hb, hml, hown, hts⟩ (m_isNode l dC dI cI cZ cII cIII h0 H.size μ1 (j) (by first | assumption | omega | exact ⟨by omega, by omega⟩) (by first | assumption | omega | exact ⟨by omega, by omega⟩)) (cwV 1 hts (gV_G k1619 k1621 ks_yX10_isNode k13 k1622) rfl rfl rfl (by decide +kernel) ⟨Nat.le_of_ble_eq_true rfl, Nat.le_of_ble_eq_true rfl⟩) ⟨fun a U g mk q => by obtain ⟨q0, q1, qP, qK⟩ := q; exact ⟨q0, q1, qP, va_K.moved (u := U) (U := U.calling g mk a) (Vm.Alike.refl U.vm) qK⟩, va_recv hK hP (ci := 10) (q0 := 0) rfl ((fw_get (by decide)).trans (by rw [mE_obj]; rfl)), fun U hU hW => ⟨rfl, by rw [hU], by rw [hU]; exact hP, va_K.moved hW.alike hK⟩⟩ rfl rfl hl.1 rfl (lv_room (Nat.le_of_ble_eq_true rfl)) dX10_alike_16 ⟨Nat.le_of_ble_eq_true rfl, Nat.le_of_ble_eq_true rfl⟩) hS (fun q _ h => fA_le hS.1 q h) (fA_le hS.1) (fun r9 u9 t9 H1 locs ht9 hvm9 hw9 hB9 hz9 hk9 hS => ?_)
    obtain ⟨μ6, r7⟩ := u9
    obtain ⟨hP, -⟩ := hB9
    rw [ht9] at hP
    generalize H1 = H at hP hS ⊢
    obtain ⟨e9, hw9⟩ := hw9
    have e9 : r9 = iZ r7 := e9
    subst e9
    simp only at hP hw9
    have hμ6 := hw9; clear hw9
    rw [hμ6.1] at hP; have hμ6 := hμ6.2
    have hjn := hμ6
    have hjn2 := if_01 hμ6
    refine fz_if_ne (tgt := 26) (by constructor <;> omega) hx hb dX10_alike_19 (by decide) (fun c19_ => ?_) (fun c19_ => ?_)
    · have hj5 := if_get hjn (by omega)
      refine lv_iconst (v := iZ 0) hx hb dX10_alike_26 rfl ?_
      refine lv_iconst (v := iZ 1) hx hb dX10_alike_27 rfl ?_
      refine lv_iconst (v := iZ 0) hx hb dX10_alike_28 rfl ?_
      refine va_calli (va_runV (As := [.int (iZ (0)), .int (iZ (1)), .int (iZ (0))]) (rest := []) ⟨hx, hb, hml, hown, hts⟩ (m_bad2 l dC dI cI cZ cII cIII h0 H.size μ1 (0) (1) (0) (by first | assumption | omega | exact ⟨by omega, by omega⟩) (by first | assumption | omega | exact ⟨by omega, by omega⟩) (by first | assumption | omega | exact ⟨by omega, by omega⟩) (by first | assumption | omega | exact ⟨by omega, by omega⟩)) (cwV 3 hts (gV_G k1338 k1340 ks_yX10_bad k13 k1341) rfl rfl rfl (by decide +kernel) ⟨Nat.le_of_ble_eq_true rfl, Nat.le_of_ble_eq_true rfl⟩) ⟨fun a U g mk q => by obtain ⟨q0, q1, qP, qK⟩ := q; exact ⟨q0, q1, qP, va_K.moved (u := U) (U := U.calling g mk a) (Vm.Alike.refl U.vm) qK⟩, va_recv hK hP (ci := 10) (q0 := 0) rfl ((fw_get (by decide)).trans (by rw [mE_obj]; rfl)), fun U hU hW => ⟨rfl, by rw [hU], by rw [hU]; exact hP, va_K.moved hW.alike hK⟩⟩ rfl rfl hl.1 rfl (lv_room (Nat.le_of_ble_eq_true rfl)) dX10_alike_29 ⟨Nat.le_of_ble_eq_true rfl, Nat.le_of_ble_eq_true rfl⟩) hS (fun q _ h => fA_le hS.1 q h) (fA_le hS.1) (fun r9 u9 t9 H1 locs ht9 hvm9 hw9 hB9 hz9 hk9 hS => ?_)
      obtain ⟨μ8, r10⟩ := u9
      obtain ⟨hP, -⟩ := hB9
      rw [ht9] at hP
      generalize H1 = H at hP hS ⊢
      obtain ⟨e9, hw9⟩ := hw9
      have e9 : r9 = iZ r10 := e9
      subst e9
      simp only at hP hw9
      have hμ8 := hw9; clear hw9
      have hfr := fr_trans hfr (badP_fr hμ8)
      have hrb := badP_r hμ8
      obtain rfl : r10 = 0 := by omega
      refine fz_if_eq (tgt := 37) (by decide) hx hb dX10_alike_32 (by decide) (fun c32_ => ?_) (fun h9 => absurd h9 (by decide))
      have hQ2 := RQ_fr hQ hfr
      obtain ⟨k10, ⟨kT, kTb, kTw⟩, kS3, kPg, kw, kwB, kwT⟩ := hQ2
      have e10k := hfr 0 10 (PS_n (by omega))
      have e9k := hfr 0 9 (PS_n (by omega))
      have e71k := hfr 719 0 (PS_n (by omega))
      have ktk := TR_tok kwT kwB.1 kwB.2.1
      have kt1 := ktk.1
      have kt2 := ktk.2.1
      obtain ⟨kx, vx, wx, aA, aF, aZ, aH, aI⟩ := RA_at kw 0 kwT.2 kwB.1 i.toNat (by omega) (by have := kwT.1; omega)
      obtain ⟨ky, vy, wy, bA9, bF, bZ, bH, bI⟩ := RA_at kw 0 kwT.2 kwB.1 j.toNat (by omega) (by have := kwT.1; omega)
      have kN := kwB.2.1
      have kH := kwB.2.2.2.1
      refine lv_aload_n hx hb dX10_alike_37 rfl (lv_at hl 0 rfl) ?_
      refine lv_iconst (v := iZ 0) hx hb dX10_alike_38 rfl ?_
      refine lv_iload_n hx hb dX10_alike_39 rfl (lv_at hl 1 rfl) ?_
      refine lv_iconst (v := iZ 0) hx hb dX10_alike_40 rfl ?_
      refine lv_iload_n hx hb dX10_alike_41 rfl (lv_at hl 2 rfl) ?_
      refine va_calli (va_runV (As := [.int (iZ (0)), .int (iZ (i)), .int (iZ (0)), .int (iZ (j))]) (rest := []) ⟨hx, hb, hml, hown, hts⟩ (m_areAlike l dC dI cI cZ cII cIII h0 (20) H.size μ8 (0) (i) (0) (j) (kx) (vx) (wx) (ky) (vy) (wy) (by decide) (by decide) (by first | assumption | omega | exact ⟨by omega, by omega⟩) (by first | assumption | omega | exact ⟨by omega, by omega⟩) (by exact aA) (by exact bA9) (by exact aF) (by exact bF) (by omega)) (cwV 4 hts (gV_G k1393 k1395 ks_yX10_areAlike k13 k1396) rfl rfl rfl (by decide +kernel) ⟨Nat.le_of_ble_eq_true rfl, Nat.le_of_ble_eq_true rfl⟩) ⟨fun a U g mk q => by obtain ⟨q0, q1, qP, qK⟩ := q; exact ⟨q0, q1, qP, va_K.moved (u := U) (U := U.calling g mk a) (Vm.Alike.refl U.vm) qK⟩, va_recv hK hP (ci := 10) (q0 := 0) rfl ((fw_get (by decide)).trans (by rw [mE_obj]; rfl)), fun U hU hW => ⟨rfl, by rw [hU], by rw [hU]; exact hP, va_K.moved hW.alike hK⟩⟩ rfl rfl hl.1 rfl (lv_room (Nat.le_of_ble_eq_true rfl)) dX10_alike_42 ⟨Nat.le_of_ble_eq_true rfl, Nat.le_of_ble_eq_true rfl⟩) hS (fun q _ h => fA_le hS.1 q h) (fA_le hS.1) (fun r9 u9 t9 H1 locs ht9 hvm9 hw9 hB9 hz9 hk9 hS => ?_)
      obtain ⟨μ11, r12⟩ := u9
      obtain ⟨hP, -⟩ := hB9
      rw [ht9] at hP
      generalize H1 = H at hP hS ⊢
      obtain ⟨e9, hw9⟩ := hw9
      have e9 : r9 = iZ r12 := e9
      subst e9
      simp only at hP hw9
      have hμ11 := hw9; clear hw9
      rw [hμ11.1] at hP; have hμ11 := hμ11.2
      exact W.zret (v := iZ (r12)) hx hb hr (by exact fz_narZ (by omega)) (fun t9 ht9 hW9 => ⟨⟨iZ (r12), (μ8, r12), rfl, ⟨rfl, (by
                    dsimp only
                    exact ⟨hfr, by omega⟩)⟩, by rw [ht9]; exact hP, va_K.moved hW9.alike hK⟩, hS.F ht9⟩) hS.2.2 dX10_alike_45
    · refine lv_iconst (v := iZ 1) hx hb dX10_alike_22 rfl ?_
      refine lv_goto (tgt := 27) hx hb dX10_alike_23 (by decide) ?_
      refine lv_iconst (v := iZ 1) hx hb dX10_alike_27 rfl ?_
      refine lv_iconst (v := iZ 0) hx hb dX10_alike_28 rfl ?_
      refine va_calli (va_runV (As := [.int (iZ (1)), .int (iZ (1)), .int (iZ (0))]) (rest := []) ⟨hx, hb, hml, hown, hts⟩ (m_bad2 l dC dI cI cZ cII cIII h0 H.size μ1 (1) (1) (0) (by first | assumption | omega | exact ⟨by omega, by omega⟩) (by first | assumption | omega | exact ⟨by omega, by omega⟩) (by first | assumption | omega | exact ⟨by omega, by omega⟩) (by first | assumption | omega | exact ⟨by omega, by omega⟩)) (cwV 3 hts (gV_G k1338 k1340 ks_yX10_bad k13 k1341) rfl rfl rfl (by decide +kernel) ⟨Nat.le_of_ble_eq_true rfl, Nat.le_of_ble_eq_true rfl⟩) ⟨fun a U g mk q => by obtain ⟨q0, q1, qP, qK⟩ := q; exact ⟨q0, q1, qP, va_K.moved (u := U) (U := U.calling g mk a) (Vm.Alike.refl U.vm) qK⟩, va_recv hK hP (ci := 10) (q0 := 0) rfl ((fw_get (by decide)).trans (by rw [mE_obj]; rfl)), fun U hU hW => ⟨rfl, by rw [hU], by rw [hU]; exact hP, va_K.moved hW.alike hK⟩⟩ rfl rfl hl.1 rfl (lv_room (Nat.le_of_ble_eq_true rfl)) dX10_alike_29 ⟨Nat.le_of_ble_eq_true rfl, Nat.le_of_ble_eq_true rfl⟩) hS (fun q _ h => fA_le hS.1 q h) (fA_le hS.1) (fun r9 u9 t9 H1 locs ht9 hvm9 hw9 hB9 hz9 hk9 hS => ?_)
      obtain ⟨μ13, r14⟩ := u9
      obtain ⟨hP, -⟩ := hB9
      rw [ht9] at hP
      generalize H1 = H at hP hS ⊢
      obtain ⟨e9, hw9⟩ := hw9
      have e9 : r9 = iZ r14 := e9
      subst e9
      simp only at hP hw9
      have hμ13 := hw9; clear hw9
      have hfr := fr_trans hfr (badP_fr hμ13)
      have hrb := badP_r hμ13
      obtain rfl : r14 = 1 := by omega
      refine fz_if_eq (tgt := 37) (by decide) hx hb dX10_alike_32 (by decide) (fun h9 => absurd h9 (by decide)) (fun c32_ => ?_)
      refine lv_iconst (v := iZ 0) hx hb dX10_alike_35 rfl ?_
      exact W.zret (v := iZ (0)) hx hb hr (by exact fz_narZ (by omega)) (fun t9 ht9 hW9 => ⟨⟨iZ (0), (μ13, 0), rfl, ⟨rfl, (by
                    dsimp only
                    exact ⟨hfr, by omega⟩)⟩, by rw [ht9]; exact hP, va_K.moved hW9.alike hK⟩, hS.F ht9⟩) hS.2.2 dX10_alike_36

theorem k1663 : (Cond.methodLink "PageSkeletonModel" (399 : Nat) ({ cls := "PageSkeletonModel", name := "walksPage", desc := "(I)Z" } : MethodName)) ∈ wsG := wsG_at 1663 (by decide +kernel) (by decide +kernel)
theorem k1665 : (Cond.instanceMethod ({ cls := "PageSkeletonModel", name := "walksPage", desc := "(I)Z" } : MethodName)) ∈ wsG := wsG_at 1665 (by decide +kernel) (by decide +kernel)
theorem k1666 : (Cond.code ({ cls := "PageSkeletonModel", name := "walksPage", desc := "(I)Z" } : MethodName) prog_12_method_87_code (6 : Nat) (Option.some FieldType.boolean)) ∈ wsG := wsG_at 1666 (by decide +kernel) (by decide +kernel)
theorem ks_yX10_walksPage : Cond.selects RX10 yX10_walksPage yX10_walksPage ∈ wsG := wsG_mem (by decide +kernel) (by decide +kernel)
theorem dX10_greatest_0 : decode cX10_greatest 0 = .ok (.aload_n 0, 1) := by decide +kernel
theorem dX10_greatest_1 : decode cX10_greatest 1 = .ok (.iconst 0, 1) := by decide +kernel
theorem dX10_greatest_2 : decode cX10_greatest 2 = .ok (.putfield 127, 3) := by decide +kernel
theorem dX10_greatest_5 : decode cX10_greatest 5 = .ok (.aload_n 0, 1) := by decide +kernel
theorem dX10_greatest_6 : decode cX10_greatest 6 = .ok (.aload_n 0, 1) := by decide +kernel
theorem dX10_greatest_7 : decode cX10_greatest 7 = .ok (.iload_n 1, 1) := by decide +kernel
theorem dX10_greatest_8 : decode cX10_greatest 8 = .ok (.invokevirtual 361, 3) := by decide +kernel
theorem dX10_greatest_11 : decode cX10_greatest 11 = .ok (.ifCond .ne 7, 3) := by decide +kernel
theorem dX10_greatest_14 : decode cX10_greatest 14 = .ok (.iconst 1, 1) := by decide +kernel
theorem dX10_greatest_15 : decode cX10_greatest 15 = .ok (.goto 4, 3) := by decide +kernel
theorem dX10_greatest_18 : decode cX10_greatest 18 = .ok (.iconst 0, 1) := by decide +kernel
theorem dX10_greatest_19 : decode cX10_greatest 19 = .ok (.iconst 1, 1) := by decide +kernel
theorem dX10_greatest_20 : decode cX10_greatest 20 = .ok (.iconst 0, 1) := by decide +kernel
theorem dX10_greatest_21 : decode cX10_greatest 21 = .ok (.invokevirtual 177, 3) := by decide +kernel
theorem dX10_greatest_24 : decode cX10_greatest 24 = .ok (.ifCond .eq 5, 3) := by decide +kernel
theorem dX10_greatest_27 : decode cX10_greatest 27 = .ok (.iconst 0, 1) := by decide +kernel
theorem dX10_greatest_28 : decode cX10_greatest 28 = .ok (.ireturn, 1) := by decide +kernel
theorem dX10_greatest_29 : decode cX10_greatest 29 = .ok (.iconst (-1), 1) := by decide +kernel
theorem dX10_greatest_30 : decode cX10_greatest 30 = .ok (.istore_n 2, 1) := by decide +kernel
theorem dX10_greatest_31 : decode cX10_greatest 31 = .ok (.iconst 0, 1) := by decide +kernel
theorem dX10_greatest_32 : decode cX10_greatest 32 = .ok (.istore_n 3, 1) := by decide +kernel
theorem dX10_greatest_33 : decode cX10_greatest 33 = .ok (.iload_n 3, 1) := by decide +kernel
theorem dX10_greatest_34 : decode cX10_greatest 34 = .ok (.aload_n 0, 1) := by decide +kernel
theorem dX10_greatest_35 : decode cX10_greatest 35 = .ok (.getfield 181, 3) := by decide +kernel
theorem dX10_greatest_38 : decode cX10_greatest 38 = .ok (.if_icmp .ge 28, 3) := by decide +kernel
theorem dX10_greatest_41 : decode cX10_greatest 41 = .ok (.aload_n 0, 1) := by decide +kernel
theorem dX10_greatest_42 : decode cX10_greatest 42 = .ok (.iload_n 3, 1) := by decide +kernel
theorem dX10_greatest_43 : decode cX10_greatest 43 = .ok (.invokevirtual 399, 3) := by decide +kernel
theorem dX10_greatest_46 : decode cX10_greatest 46 = .ok (.ifCond .eq 14, 3) := by decide +kernel
theorem dX10_greatest_49 : decode cX10_greatest 49 = .ok (.iload_n 2, 1) := by decide +kernel
theorem dX10_greatest_50 : decode cX10_greatest 50 = .ok (.aload_n 0, 1) := by decide +kernel
theorem dX10_greatest_51 : decode cX10_greatest 51 = .ok (.getfield 109, 3) := by decide +kernel
theorem dX10_greatest_54 : decode cX10_greatest 54 = .ok (.iload_n 1, 1) := by decide +kernel
theorem dX10_greatest_55 : decode cX10_greatest 55 = .ok (.iaload, 1) := by decide +kernel
theorem dX10_greatest_56 : decode cX10_greatest 56 = .ok (.invokestatic 343, 3) := by decide +kernel
theorem dX10_greatest_59 : decode cX10_greatest 59 = .ok (.istore_n 2, 1) := by decide +kernel
theorem dX10_greatest_60 : decode cX10_greatest 60 = .ok (.iinc 3 1, 3) := by decide +kernel
theorem dX10_greatest_63 : decode cX10_greatest 63 = .ok (.goto (-30), 3) := by decide +kernel
theorem dX10_greatest_66 : decode cX10_greatest 66 = .ok (.iload_n 2, 1) := by decide +kernel
theorem dX10_greatest_67 : decode cX10_greatest 67 = .ok (.ireturn, 1) := by decide +kernel
theorem dX10_passes_0 : decode cX10_passes 0 = .ok (.aload_n 0, 1) := by decide +kernel
theorem dX10_passes_1 : decode cX10_passes 1 = .ok (.iconst 0, 1) := by decide +kernel
theorem dX10_passes_2 : decode cX10_passes 2 = .ok (.putfield 127, 3) := by decide +kernel
theorem dX10_passes_5 : decode cX10_passes 5 = .ok (.aload_n 0, 1) := by decide +kernel
theorem dX10_passes_6 : decode cX10_passes 6 = .ok (.aload_n 0, 1) := by decide +kernel
theorem dX10_passes_7 : decode cX10_passes 7 = .ok (.iload_n 1, 1) := by decide +kernel
theorem dX10_passes_8 : decode cX10_passes 8 = .ok (.invokevirtual 346, 3) := by decide +kernel
theorem dX10_passes_11 : decode cX10_passes 11 = .ok (.ifCond .eq 11, 3) := by decide +kernel
theorem dX10_passes_14 : decode cX10_passes 14 = .ok (.aload_n 0, 1) := by decide +kernel
theorem dX10_passes_15 : decode cX10_passes 15 = .ok (.iload_n 2, 1) := by decide +kernel
theorem dX10_passes_16 : decode cX10_passes 16 = .ok (.invokevirtual 361, 3) := by decide +kernel
theorem dX10_passes_19 : decode cX10_passes 19 = .ok (.ifCond .ne 7, 3) := by decide +kernel
theorem dX10_passes_22 : decode cX10_passes 22 = .ok (.iconst 1, 1) := by decide +kernel
theorem dX10_passes_23 : decode cX10_passes 23 = .ok (.goto 4, 3) := by decide +kernel
theorem dX10_passes_26 : decode cX10_passes 26 = .ok (.iconst 0, 1) := by decide +kernel
theorem dX10_passes_27 : decode cX10_passes 27 = .ok (.iconst 1, 1) := by decide +kernel
theorem dX10_passes_28 : decode cX10_passes 28 = .ok (.iconst 0, 1) := by decide +kernel
theorem dX10_passes_29 : decode cX10_passes 29 = .ok (.invokevirtual 177, 3) := by decide +kernel
theorem dX10_passes_32 : decode cX10_passes 32 = .ok (.ifCond .eq 5, 3) := by decide +kernel
theorem dX10_passes_35 : decode cX10_passes 35 = .ok (.iconst 0, 1) := by decide +kernel
theorem dX10_passes_36 : decode cX10_passes 36 = .ok (.ireturn, 1) := by decide +kernel
theorem dX10_passes_37 : decode cX10_passes 37 = .ok (.aload_n 0, 1) := by decide +kernel
theorem dX10_passes_38 : decode cX10_passes 38 = .ok (.getfield 45, 3) := by decide +kernel
theorem dX10_passes_41 : decode cX10_passes 41 = .ok (.iconst 0, 1) := by decide +kernel
theorem dX10_passes_42 : decode cX10_passes 42 = .ok (.aaload, 1) := by decide +kernel
theorem dX10_passes_43 : decode cX10_passes 43 = .ok (.iload_n 2, 1) := by decide +kernel
theorem dX10_passes_44 : decode cX10_passes 44 = .ok (.iaload, 1) := by decide +kernel
theorem dX10_passes_45 : decode cX10_passes 45 = .ok (.iconst 4, 1) := by decide +kernel
theorem dX10_passes_46 : decode cX10_passes 46 = .ok (.if_icmp .ne 20, 3) := by decide +kernel
theorem dX10_passes_49 : decode cX10_passes 49 = .ok (.aload_n 0, 1) := by decide +kernel
theorem dX10_passes_50 : decode cX10_passes 50 = .ok (.iload_n 1, 1) := by decide +kernel
theorem dX10_passes_51 : decode cX10_passes 51 = .ok (.invokevirtual 399, 3) := by decide +kernel
theorem dX10_passes_54 : decode cX10_passes 54 = .ok (.ifCond .eq 12, 3) := by decide +kernel
theorem dX10_passes_57 : decode cX10_passes 57 = .ok (.aload_n 0, 1) := by decide +kernel
theorem dX10_passes_58 : decode cX10_passes 58 = .ok (.getfield 112, 3) := by decide +kernel
theorem dX10_passes_61 : decode cX10_passes 61 = .ok (.iload_n 2, 1) := by decide +kernel
theorem dX10_passes_62 : decode cX10_passes 62 = .ok (.iaload, 1) := by decide +kernel
theorem dX10_passes_63 : decode cX10_passes 63 = .ok (.goto 4, 3) := by decide +kernel
theorem dX10_passes_66 : decode cX10_passes 66 = .ok (.iconst (-1), 1) := by decide +kernel
theorem dX10_passes_67 : decode cX10_passes 67 = .ok (.ireturn, 1) := by decide +kernel
theorem dX10_taker_0 : decode cX10_taker 0 = .ok (.aload_n 0, 1) := by decide +kernel
theorem dX10_taker_1 : decode cX10_taker 1 = .ok (.iconst 0, 1) := by decide +kernel
theorem dX10_taker_2 : decode cX10_taker 2 = .ok (.putfield 127, 3) := by decide +kernel
theorem dX10_taker_5 : decode cX10_taker 5 = .ok (.aload_n 0, 1) := by decide +kernel
theorem dX10_taker_6 : decode cX10_taker 6 = .ok (.iload_n 1, 1) := by decide +kernel
theorem dX10_taker_7 : decode cX10_taker 7 = .ok (.invokevirtual 346, 3) := by decide +kernel
theorem dX10_taker_10 : decode cX10_taker 10 = .ok (.ifCond .eq 23, 3) := by decide +kernel
theorem dX10_taker_13 : decode cX10_taker 13 = .ok (.iload_n 2, 1) := by decide +kernel
theorem dX10_taker_14 : decode cX10_taker 14 = .ok (.iconst 0, 1) := by decide +kernel
theorem dX10_taker_15 : decode cX10_taker 15 = .ok (.aload_n 0, 1) := by decide +kernel
theorem dX10_taker_16 : decode cX10_taker 16 = .ok (.getfield 34, 3) := by decide +kernel
theorem dX10_taker_19 : decode cX10_taker 19 = .ok (.iload_n 1, 1) := by decide +kernel
theorem dX10_taker_20 : decode cX10_taker 20 = .ok (.iaload, 1) := by decide +kernel
theorem dX10_taker_21 : decode cX10_taker 21 = .ok (.iconst 1, 1) := by decide +kernel
theorem dX10_taker_22 : decode cX10_taker 22 = .ok (.isub, 1) := by decide +kernel
theorem dX10_taker_23 : decode cX10_taker 23 = .ok (.invokestatic 173, 3) := by decide +kernel
theorem dX10_taker_26 : decode cX10_taker 26 = .ok (.ifCond .eq 7, 3) := by decide +kernel
theorem dX10_taker_29 : decode cX10_taker 29 = .ok (.iconst 1, 1) := by decide +kernel
theorem dX10_taker_30 : decode cX10_taker 30 = .ok (.goto 4, 3) := by decide +kernel
theorem dX10_taker_33 : decode cX10_taker 33 = .ok (.iconst 0, 1) := by decide +kernel
theorem dX10_taker_34 : decode cX10_taker 34 = .ok (.istore_n 3, 1) := by decide +kernel
theorem dX10_taker_35 : decode cX10_taker 35 = .ok (.aload_n 0, 1) := by decide +kernel
theorem dX10_taker_36 : decode cX10_taker 36 = .ok (.iload_n 3, 1) := by decide +kernel
theorem dX10_taker_37 : decode cX10_taker 37 = .ok (.ifCond .ne 7, 3) := by decide +kernel
theorem dX10_taker_40 : decode cX10_taker 40 = .ok (.iconst 1, 1) := by decide +kernel
theorem dX10_taker_41 : decode cX10_taker 41 = .ok (.goto 4, 3) := by decide +kernel
theorem dX10_taker_44 : decode cX10_taker 44 = .ok (.iconst 0, 1) := by decide +kernel
theorem dX10_taker_45 : decode cX10_taker 45 = .ok (.iconst 1, 1) := by decide +kernel
theorem dX10_taker_46 : decode cX10_taker 46 = .ok (.iconst 0, 1) := by decide +kernel
theorem dX10_taker_47 : decode cX10_taker 47 = .ok (.invokevirtual 177, 3) := by decide +kernel
theorem dX10_taker_50 : decode cX10_taker 50 = .ok (.ifCond .eq 5, 3) := by decide +kernel
theorem dX10_taker_53 : decode cX10_taker 53 = .ok (.iconst 0, 1) := by decide +kernel
theorem dX10_taker_54 : decode cX10_taker 54 = .ok (.ireturn, 1) := by decide +kernel
theorem dX10_taker_55 : decode cX10_taker 55 = .ok (.aload_n 0, 1) := by decide +kernel
theorem dX10_taker_56 : decode cX10_taker 56 = .ok (.iload_n 1, 1) := by decide +kernel
theorem dX10_taker_57 : decode cX10_taker 57 = .ok (.invokevirtual 399, 3) := by decide +kernel
theorem dX10_taker_60 : decode cX10_taker 60 = .ok (.ifCond .eq 12, 3) := by decide +kernel
theorem dX10_taker_63 : decode cX10_taker 63 = .ok (.aload_n 0, 1) := by decide +kernel
theorem dX10_taker_64 : decode cX10_taker 64 = .ok (.getfield 115, 3) := by decide +kernel
theorem dX10_taker_67 : decode cX10_taker 67 = .ok (.iload_n 2, 1) := by decide +kernel
theorem dX10_taker_68 : decode cX10_taker 68 = .ok (.iaload, 1) := by decide +kernel
theorem dX10_taker_69 : decode cX10_taker 69 = .ok (.goto 4, 3) := by decide +kernel
theorem dX10_taker_72 : decode cX10_taker 72 = .ok (.iconst (-1), 1) := by decide +kernel
theorem dX10_taker_73 : decode cX10_taker 73 = .ok (.ireturn, 1) := by decide +kernel
theorem dX10_times_0 : decode cX10_times 0 = .ok (.aload_n 0, 1) := by decide +kernel
theorem dX10_times_1 : decode cX10_times 1 = .ok (.iconst 0, 1) := by decide +kernel
theorem dX10_times_2 : decode cX10_times 2 = .ok (.putfield 127, 3) := by decide +kernel
theorem dX10_times_5 : decode cX10_times 5 = .ok (.aload_n 0, 1) := by decide +kernel
theorem dX10_times_6 : decode cX10_times 6 = .ok (.aload_n 0, 1) := by decide +kernel
theorem dX10_times_7 : decode cX10_times 7 = .ok (.iload_n 1, 1) := by decide +kernel
theorem dX10_times_8 : decode cX10_times 8 = .ok (.invokevirtual 346, 3) := by decide +kernel
theorem dX10_times_11 : decode cX10_times 11 = .ok (.ifCond .eq 11, 3) := by decide +kernel
theorem dX10_times_14 : decode cX10_times 14 = .ok (.aload_n 0, 1) := by decide +kernel
theorem dX10_times_15 : decode cX10_times 15 = .ok (.iload_n 2, 1) := by decide +kernel
theorem dX10_times_16 : decode cX10_times 16 = .ok (.invokevirtual 361, 3) := by decide +kernel
theorem dX10_times_19 : decode cX10_times 19 = .ok (.ifCond .ne 7, 3) := by decide +kernel
theorem dX10_times_22 : decode cX10_times 22 = .ok (.iconst 1, 1) := by decide +kernel
theorem dX10_times_23 : decode cX10_times 23 = .ok (.goto 4, 3) := by decide +kernel
theorem dX10_times_26 : decode cX10_times 26 = .ok (.iconst 0, 1) := by decide +kernel
theorem dX10_times_27 : decode cX10_times 27 = .ok (.iconst 1, 1) := by decide +kernel
theorem dX10_times_28 : decode cX10_times 28 = .ok (.iconst 0, 1) := by decide +kernel
theorem dX10_times_29 : decode cX10_times 29 = .ok (.invokevirtual 177, 3) := by decide +kernel
theorem dX10_times_32 : decode cX10_times 32 = .ok (.ifCond .eq 5, 3) := by decide +kernel
theorem dX10_times_35 : decode cX10_times 35 = .ok (.iconst 0, 1) := by decide +kernel
theorem dX10_times_36 : decode cX10_times 36 = .ok (.ireturn, 1) := by decide +kernel
theorem dX10_times_37 : decode cX10_times 37 = .ok (.aload_n 0, 1) := by decide +kernel
theorem dX10_times_38 : decode cX10_times 38 = .ok (.iload_n 1, 1) := by decide +kernel
theorem dX10_times_39 : decode cX10_times 39 = .ok (.invokevirtual 399, 3) := by decide +kernel
theorem dX10_times_42 : decode cX10_times 42 = .ok (.ifCond .eq 12, 3) := by decide +kernel
theorem dX10_times_45 : decode cX10_times 45 = .ok (.aload_n 0, 1) := by decide +kernel
theorem dX10_times_46 : decode cX10_times 46 = .ok (.getfield 109, 3) := by decide +kernel
theorem dX10_times_49 : decode cX10_times 49 = .ok (.iload_n 2, 1) := by decide +kernel
theorem dX10_times_50 : decode cX10_times 50 = .ok (.iaload, 1) := by decide +kernel
theorem dX10_times_51 : decode cX10_times 51 = .ok (.goto 4, 3) := by decide +kernel
theorem dX10_times_54 : decode cX10_times 54 = .ok (.iconst (-1), 1) := by decide +kernel
theorem dX10_times_55 : decode cX10_times 55 = .ok (.ireturn, 1) := by decide +kernel
theorem dX10_users_0 : decode cX10_users 0 = .ok (.aload_n 0, 1) := by decide +kernel
theorem dX10_users_1 : decode cX10_users 1 = .ok (.iconst 0, 1) := by decide +kernel
theorem dX10_users_2 : decode cX10_users 2 = .ok (.putfield 127, 3) := by decide +kernel
theorem dX10_users_5 : decode cX10_users 5 = .ok (.aload_n 0, 1) := by decide +kernel
theorem dX10_users_6 : decode cX10_users 6 = .ok (.aload_n 0, 1) := by decide +kernel
theorem dX10_users_7 : decode cX10_users 7 = .ok (.iload_n 1, 1) := by decide +kernel
theorem dX10_users_8 : decode cX10_users 8 = .ok (.invokevirtual 361, 3) := by decide +kernel
theorem dX10_users_11 : decode cX10_users 11 = .ok (.ifCond .ne 7, 3) := by decide +kernel
theorem dX10_users_14 : decode cX10_users 14 = .ok (.iconst 1, 1) := by decide +kernel
theorem dX10_users_15 : decode cX10_users 15 = .ok (.goto 4, 3) := by decide +kernel
theorem dX10_users_18 : decode cX10_users 18 = .ok (.iconst 0, 1) := by decide +kernel
theorem dX10_users_19 : decode cX10_users 19 = .ok (.iconst 1, 1) := by decide +kernel
theorem dX10_users_20 : decode cX10_users 20 = .ok (.iconst 0, 1) := by decide +kernel
theorem dX10_users_21 : decode cX10_users 21 = .ok (.invokevirtual 177, 3) := by decide +kernel
theorem dX10_users_24 : decode cX10_users 24 = .ok (.ifCond .eq 5, 3) := by decide +kernel
theorem dX10_users_27 : decode cX10_users 27 = .ok (.iconst 0, 1) := by decide +kernel
theorem dX10_users_28 : decode cX10_users 28 = .ok (.ireturn, 1) := by decide +kernel
theorem dX10_users_29 : decode cX10_users 29 = .ok (.iconst 0, 1) := by decide +kernel
theorem dX10_users_30 : decode cX10_users 30 = .ok (.istore_n 2, 1) := by decide +kernel
theorem dX10_users_31 : decode cX10_users 31 = .ok (.iconst 0, 1) := by decide +kernel
theorem dX10_users_32 : decode cX10_users 32 = .ok (.istore_n 3, 1) := by decide +kernel
theorem dX10_users_33 : decode cX10_users 33 = .ok (.iload_n 3, 1) := by decide +kernel
theorem dX10_users_34 : decode cX10_users 34 = .ok (.aload_n 0, 1) := by decide +kernel
theorem dX10_users_35 : decode cX10_users 35 = .ok (.getfield 181, 3) := by decide +kernel
theorem dX10_users_38 : decode cX10_users 38 = .ok (.if_icmp .ge 36, 3) := by decide +kernel
theorem dX10_users_41 : decode cX10_users 41 = .ok (.iload_n 2, 1) := by decide +kernel
theorem dX10_users_42 : decode cX10_users 42 = .ok (.aload_n 0, 1) := by decide +kernel
theorem dX10_users_43 : decode cX10_users 43 = .ok (.iload_n 3, 1) := by decide +kernel
theorem dX10_users_44 : decode cX10_users 44 = .ok (.invokevirtual 399, 3) := by decide +kernel
theorem dX10_users_47 : decode cX10_users 47 = .ok (.ifCond .eq 18, 3) := by decide +kernel
theorem dX10_users_50 : decode cX10_users 50 = .ok (.aload_n 0, 1) := by decide +kernel
theorem dX10_users_51 : decode cX10_users 51 = .ok (.getfield 109, 3) := by decide +kernel
theorem dX10_users_54 : decode cX10_users 54 = .ok (.iload_n 1, 1) := by decide +kernel
theorem dX10_users_55 : decode cX10_users 55 = .ok (.iaload, 1) := by decide +kernel
theorem dX10_users_56 : decode cX10_users 56 = .ok (.ifCond .le 9, 3) := by decide +kernel
theorem dX10_users_59 : decode cX10_users 59 = .ok (.iconst 1, 1) := by decide +kernel
theorem dX10_users_60 : decode cX10_users 60 = .ok (.iload_n 3, 1) := by decide +kernel
theorem dX10_users_61 : decode cX10_users 61 = .ok (.ishl, 1) := by decide +kernel
theorem dX10_users_62 : decode cX10_users 62 = .ok (.goto 4, 3) := by decide +kernel
theorem dX10_users_65 : decode cX10_users 65 = .ok (.iconst 0, 1) := by decide +kernel
theorem dX10_users_66 : decode cX10_users 66 = .ok (.ior, 1) := by decide +kernel
theorem dX10_users_67 : decode cX10_users 67 = .ok (.istore_n 2, 1) := by decide +kernel
theorem dX10_users_68 : decode cX10_users 68 = .ok (.iinc 3 1, 3) := by decide +kernel
theorem dX10_users_71 : decode cX10_users 71 = .ok (.goto (-38), 3) := by decide +kernel
theorem dX10_users_74 : decode cX10_users 74 = .ok (.iload_n 2, 1) := by decide +kernel
theorem dX10_users_75 : decode cX10_users 75 = .ok (.ireturn, 1) := by decide +kernel
theorem dX10_value_0 : decode cX10_value 0 = .ok (.aload_n 0, 1) := by decide +kernel
theorem dX10_value_1 : decode cX10_value 1 = .ok (.iconst 0, 1) := by decide +kernel
theorem dX10_value_2 : decode cX10_value 2 = .ok (.putfield 127, 3) := by decide +kernel
theorem dX10_value_5 : decode cX10_value 5 = .ok (.aload_n 0, 1) := by decide +kernel
theorem dX10_value_6 : decode cX10_value 6 = .ok (.aload_n 0, 1) := by decide +kernel
theorem dX10_value_7 : decode cX10_value 7 = .ok (.iload_n 1, 1) := by decide +kernel
theorem dX10_value_8 : decode cX10_value 8 = .ok (.invokevirtual 346, 3) := by decide +kernel
theorem dX10_value_11 : decode cX10_value 11 = .ok (.ifCond .eq 11, 3) := by decide +kernel
theorem dX10_value_14 : decode cX10_value 14 = .ok (.aload_n 0, 1) := by decide +kernel
theorem dX10_value_15 : decode cX10_value 15 = .ok (.iload_n 2, 1) := by decide +kernel
theorem dX10_value_16 : decode cX10_value 16 = .ok (.invokevirtual 361, 3) := by decide +kernel
theorem dX10_value_19 : decode cX10_value 19 = .ok (.ifCond .ne 7, 3) := by decide +kernel
theorem dX10_value_22 : decode cX10_value 22 = .ok (.iconst 1, 1) := by decide +kernel
theorem dX10_value_23 : decode cX10_value 23 = .ok (.goto 4, 3) := by decide +kernel
theorem dX10_value_26 : decode cX10_value 26 = .ok (.iconst 0, 1) := by decide +kernel
theorem dX10_value_27 : decode cX10_value 27 = .ok (.iconst 1, 1) := by decide +kernel
theorem dX10_value_28 : decode cX10_value 28 = .ok (.iconst 0, 1) := by decide +kernel
theorem dX10_value_29 : decode cX10_value 29 = .ok (.invokevirtual 177, 3) := by decide +kernel
theorem dX10_value_32 : decode cX10_value 32 = .ok (.ifCond .eq 5, 3) := by decide +kernel
theorem dX10_value_35 : decode cX10_value 35 = .ok (.iconst 0, 1) := by decide +kernel
theorem dX10_value_36 : decode cX10_value 36 = .ok (.ireturn, 1) := by decide +kernel
theorem dX10_value_37 : decode cX10_value 37 = .ok (.aload_n 0, 1) := by decide +kernel
theorem dX10_value_38 : decode cX10_value 38 = .ok (.getfield 45, 3) := by decide +kernel
theorem dX10_value_41 : decode cX10_value 41 = .ok (.iconst 0, 1) := by decide +kernel
theorem dX10_value_42 : decode cX10_value 42 = .ok (.aaload, 1) := by decide +kernel
theorem dX10_value_43 : decode cX10_value 43 = .ok (.iload_n 2, 1) := by decide +kernel
theorem dX10_value_44 : decode cX10_value 44 = .ok (.iaload, 1) := by decide +kernel
theorem dX10_value_45 : decode cX10_value 45 = .ok (.iconst 2, 1) := by decide +kernel
theorem dX10_value_46 : decode cX10_value 46 = .ok (.if_icmp .ne 11, 3) := by decide +kernel
theorem dX10_value_49 : decode cX10_value 49 = .ok (.aload_n 0, 1) := by decide +kernel
theorem dX10_value_50 : decode cX10_value 50 = .ok (.iload_n 1, 1) := by decide +kernel
theorem dX10_value_51 : decode cX10_value 51 = .ok (.invokevirtual 399, 3) := by decide +kernel
theorem dX10_value_54 : decode cX10_value 54 = .ok (.ifCond .ne 5, 3) := by decide +kernel
theorem dX10_value_57 : decode cX10_value 57 = .ok (.iconst (-1), 1) := by decide +kernel
theorem dX10_value_58 : decode cX10_value 58 = .ok (.ireturn, 1) := by decide +kernel
theorem dX10_value_59 : decode cX10_value 59 = .ok (.iconst 0, 1) := by decide +kernel
theorem dX10_value_60 : decode cX10_value 60 = .ok (.istore 4, 2) := by decide +kernel
theorem dX10_value_62 : decode cX10_value 62 = .ok (.iconst 0, 1) := by decide +kernel
theorem dX10_value_63 : decode cX10_value 63 = .ok (.istore 5, 2) := by decide +kernel
theorem dX10_value_65 : decode cX10_value 65 = .ok (.iload 5, 2) := by decide +kernel
theorem dX10_value_67 : decode cX10_value 67 = .ok (.aload_n 0, 1) := by decide +kernel
theorem dX10_value_68 : decode cX10_value 68 = .ok (.getfield 34, 3) := by decide +kernel
theorem dX10_value_71 : decode cX10_value 71 = .ok (.iload_n 1, 1) := by decide +kernel
theorem dX10_value_72 : decode cX10_value 72 = .ok (.iaload, 1) := by decide +kernel
theorem dX10_value_73 : decode cX10_value 73 = .ok (.if_icmp .ge 42, 3) := by decide +kernel
theorem dX10_value_76 : decode cX10_value 76 = .ok (.aload_n 0, 1) := by decide +kernel
theorem dX10_value_77 : decode cX10_value 77 = .ok (.getfield 115, 3) := by decide +kernel
theorem dX10_value_80 : decode cX10_value 80 = .ok (.iload 5, 2) := by decide +kernel
theorem dX10_value_82 : decode cX10_value 82 = .ok (.iaload, 1) := by decide +kernel
theorem dX10_value_83 : decode cX10_value 83 = .ok (.iload_n 2, 1) := by decide +kernel
theorem dX10_value_84 : decode cX10_value 84 = .ok (.if_icmp .eq 6, 3) := by decide +kernel
theorem dX10_value_87 : decode cX10_value 87 = .ok (.goto 22, 3) := by decide +kernel
theorem dX10_value_90 : decode cX10_value 90 = .ok (.iload 4, 2) := by decide +kernel
theorem dX10_value_92 : decode cX10_value 92 = .ok (.iload_n 3, 1) := by decide +kernel
theorem dX10_value_93 : decode cX10_value 93 = .ok (.if_icmp .ne 13, 3) := by decide +kernel
theorem dX10_value_96 : decode cX10_value 96 = .ok (.aload_n 0, 1) := by decide +kernel
theorem dX10_value_97 : decode cX10_value 97 = .ok (.getfield 31, 3) := by decide +kernel
theorem dX10_value_100 : decode cX10_value 100 = .ok (.iload_n 1, 1) := by decide +kernel
theorem dX10_value_101 : decode cX10_value 101 = .ok (.aaload, 1) := by decide +kernel
theorem dX10_value_102 : decode cX10_value 102 = .ok (.iload 5, 2) := by decide +kernel
theorem dX10_value_104 : decode cX10_value 104 = .ok (.iaload, 1) := by decide +kernel
theorem dX10_value_105 : decode cX10_value 105 = .ok (.ireturn, 1) := by decide +kernel
theorem dX10_value_106 : decode cX10_value 106 = .ok (.iinc 4 1, 3) := by decide +kernel
theorem dX10_value_109 : decode cX10_value 109 = .ok (.iinc 5 1, 3) := by decide +kernel
theorem dX10_value_112 : decode cX10_value 112 = .ok (.goto (-47), 3) := by decide +kernel
theorem dX10_value_115 : decode cX10_value 115 = .ok (.iconst (-1), 1) := by decide +kernel
theorem dX10_value_116 : decode cX10_value 116 = .ok (.ireturn, 1) := by decide +kernel
set_option maxHeartbeats 4000000 in
set_option maxRecDepth 100000 in
theorem m_times (l : Launch) (dC : Nat → ClassId) (dI : Nat → Nat → Nat) (cI cZ cII cIII : ClassId) (h0 sz : Nat) (μ : va_M) (pp : Int) (i : Int) (hQ : RQ μ) (hp : inR pp) (hi9 : inR i) : Met l yX10_times (Cond.code yX10_times cX10_times 3 (some .int) :: wsG) ({ frames := 9, cells := 0, slots := 0, locals := 215 } : Room) (va_Pc [.ref h0, .int (iZ (pp)), .int (iZ (i))] (fun U => U.heap.size = sz ∧ va_P (dC, dI) vwCl (fw (mE cI cZ cII cIII h0) h0 6325 μ) U.heap ∧ va_K (dC, dI) vwCl (mT cI cZ cII cIII) U)) (va_Qi (fun (r9 : Int32) (u : va_M × Int) => r9 = iZ u.2 ∧ (fun (u : va_M) (r : Int) => fr PS μ u ∧ (u 0 0 = 0 ∨ u 0 0 = 1 ∨ u 0 0 = 2)) u.1 u.2) (fun u t => va_P (dC, dI) vwCl (fw (mE cI cZ cII cIII h0) h0 6325 u.1) t.heap ∧ va_K (dC, dI) vwCl (mT cI cZ cII cIII) t) (fA h0 6325 sz)) 0 0 (fA h0 6325 sz) := by
  refine Met.ofW (cc := cX10_times) (maxL := 3) (ret := (some .int)) (by decide) rfl ?_
  intro p e s m args below meth c s₁ B hml hv
  obtain ⟨rfl, hsz, hP, hK⟩ := hv
  have hx := B.exec
  have hb := B.bytes
  have hr := B.returns
  have hts : ∀ w ∈ wsG, w.before _ s = true := hG_of (atoms_spec (ws := (Cond.code yX10_times cX10_times 3 (some .int) :: wsG)) B.pre)
  have hown : s.vm.findClass RX10 = some m.cls := findClass_of_methodNamed B.named
  have hlocks := B.notSynchronized
  subst hsz
  have hS : va_S (fA h0 6325 s.heap.size) s.heap s.heap [] := va_S.rf
  have hl := lv_entry ([.ref h0, .int (iZ (pp)), .int (iZ (i))]) (n := 3) (Nat.le_of_ble_eq_true rfl)
  rw [lg_entry_eq]
  generalize (lg_sl ([.ref h0, .int (iZ (pp)), .int (iZ (i))]) ++ List.replicate (3 - (lg_sl ([.ref h0, .int (iZ (pp)), .int (iZ (i))])).length) Slot.unset).toArray = ls at hl ⊢
  have hl : lv_has ls 3 [(0, .ref h0), (1, .int (iZ (pp))), (2, .int (iZ (i)))] := hl
  refine lv_aload_n hx hb dX10_times_0 rfl (lv_at hl 0 rfl) ?_
  refine lv_iconst (v := iZ 0) hx hb dX10_times_1 rfl ?_
  refine fz_put (D := (dC, dI)) (ci := 10) (ty := .int) (z := 0) (C := RX10) (T := TX10) (N := 53) hx hb hts inG10 tyX10 tyX10_ok nmX10 hown hK hP fA_in hS (k := 0) (by decide) (F := mF h0) mE_obj rfl 0 (by decide) (hts _ k1166) (fun _ h9 => h9) rfl (by decide +kernel) rfl rfl (fun _ => Nat.le_of_ble_eq_true rfl) (fun _ _ => rfl) dX10_times_2 (fun H locs hP hS => ?_)
  obtain ⟨μ1, eμ1⟩ : ∃ x : va_M, x = uz μ 0 0 (0) := ⟨_, rfl⟩
  rw [← eμ1] at hP
  have hfr : fr PS μ μ1 := by rw [eμ1]; exact fr_uz fr_rfl (by unfold PS; omega)
  have ht0 : μ1 0 0 = 0 := by rw [eμ1, uz_s]
  have e10 := hfr 0 10 (PS_n (by omega))
  have e9 := hfr 0 9 (PS_n (by omega))
  have e71 := hfr 719 0 (PS_n (by omega))
  have hQ1 := RQ_fr hQ hfr
  have hQc := hQ
  obtain ⟨f10, ⟨fT, fTb, fTw⟩, fS3, fPg, fw9, fwB, fwT⟩ := hQc
  obtain ⟨g10, ⟨gT, gTb, gTw⟩, gS3, gPg, gw, gwB, gwT⟩ := hQ1
  have gtk := TR_tok gwT gwB.1 gwB.2.1
  have gt1 := gtk.1
  have gt2 := gtk.2.1
  refine lv_aload_n hx hb dX10_times_5 rfl (lv_at hl 0 rfl) ?_
  refine lv_aload_n hx hb dX10_times_6 rfl (lv_at hl 0 rfl) ?_
  refine lv_iload_n hx hb dX10_times_7 rfl (lv_at hl 1 rfl) ?_
  refine va_calli (va_runV (As := [.int (iZ (pp))]) (rest := [.ref h0]) ⟨hx, hb, hml, hown, hts⟩ (m_isPage l dC dI cI cZ cII cIII h0 H.size μ1 (pp) (by first | assumption | omega | exact ⟨by omega, by omega⟩) (by first | assumption | omega | exact ⟨by omega, by omega⟩)) (cwV 1 hts (gV_G k1584 k1586 ks_yX10_isPage k13 k1587) rfl rfl rfl (by decide +kernel) ⟨Nat.le_of_ble_eq_true rfl, Nat.le_of_ble_eq_true rfl⟩) ⟨fun a U g mk q => by obtain ⟨q0, q1, qP, qK⟩ := q; exact ⟨q0, q1, qP, va_K.moved (u := U) (U := U.calling g mk a) (Vm.Alike.refl U.vm) qK⟩, va_recv hK hP (ci := 10) (q0 := 0) rfl ((fw_get (by decide)).trans (by rw [mE_obj]; rfl)), fun U hU hW => ⟨rfl, by rw [hU], by rw [hU]; exact hP, va_K.moved hW.alike hK⟩⟩ rfl rfl hl.1 rfl (lv_room (Nat.le_of_ble_eq_true rfl)) dX10_times_8 ⟨Nat.le_of_ble_eq_true rfl, Nat.le_of_ble_eq_true rfl⟩) hS (fun q _ h => fA_le hS.1 q h) (fA_le hS.1) (fun r9 u9 t9 H1 locs ht9 hvm9 hw9 hB9 hz9 hk9 hS => ?_)
  obtain ⟨μ2, r3⟩ := u9
  obtain ⟨hP, -⟩ := hB9
  rw [ht9] at hP
  generalize H1 = H at hP hS ⊢
  obtain ⟨e9, hw9⟩ := hw9
  have e9 : r9 = iZ r3 := e9
  subst e9
  simp only at hP hw9
  have hμ2 := hw9; clear hw9
  rw [hμ2.1] at hP; have hμ2 := hμ2.2
  have hip := hμ2
  have hip2 := if_01 hμ2
  refine fz_if_eq (tgt := 22) (by constructor <;> omega) hx hb dX10_times_11 (by decide) (fun c11_ => ?_) (fun c11_ => ?_)
  · refine lv_iconst (v := iZ 1) hx hb dX10_times_22 rfl ?_
    refine lv_goto (tgt := 27) hx hb dX10_times_23 (by decide) ?_
    refine lv_iconst (v := iZ 1) hx hb dX10_times_27 rfl ?_
    refine lv_iconst (v := iZ 0) hx hb dX10_times_28 rfl ?_
    refine va_calli (va_runV (As := [.int (iZ (1)), .int (iZ (1)), .int (iZ (0))]) (rest := []) ⟨hx, hb, hml, hown, hts⟩ (m_bad2 l dC dI cI cZ cII cIII h0 H.size μ1 (1) (1) (0) (by first | assumption | omega | exact ⟨by omega, by omega⟩) (by first | assumption | omega | exact ⟨by omega, by omega⟩) (by first | assumption | omega | exact ⟨by omega, by omega⟩) (by first | assumption | omega | exact ⟨by omega, by omega⟩)) (cwV 3 hts (gV_G k1338 k1340 ks_yX10_bad k13 k1341) rfl rfl rfl (by decide +kernel) ⟨Nat.le_of_ble_eq_true rfl, Nat.le_of_ble_eq_true rfl⟩) ⟨fun a U g mk q => by obtain ⟨q0, q1, qP, qK⟩ := q; exact ⟨q0, q1, qP, va_K.moved (u := U) (U := U.calling g mk a) (Vm.Alike.refl U.vm) qK⟩, va_recv hK hP (ci := 10) (q0 := 0) rfl ((fw_get (by decide)).trans (by rw [mE_obj]; rfl)), fun U hU hW => ⟨rfl, by rw [hU], by rw [hU]; exact hP, va_K.moved hW.alike hK⟩⟩ rfl rfl hl.1 rfl (lv_room (Nat.le_of_ble_eq_true rfl)) dX10_times_29 ⟨Nat.le_of_ble_eq_true rfl, Nat.le_of_ble_eq_true rfl⟩) hS (fun q _ h => fA_le hS.1 q h) (fA_le hS.1) (fun r9 u9 t9 H1 locs ht9 hvm9 hw9 hB9 hz9 hk9 hS => ?_)
    obtain ⟨μ4, r5⟩ := u9
    obtain ⟨hP, -⟩ := hB9
    rw [ht9] at hP
    generalize H1 = H at hP hS ⊢
    obtain ⟨e9, hw9⟩ := hw9
    have e9 : r9 = iZ r5 := e9
    subst e9
    simp only at hP hw9
    have hμ4 := hw9; clear hw9
    have hfr := fr_trans hfr (badP_fr hμ4)
    have hrb := badP_r hμ4
    obtain rfl : r5 = 1 := by omega
    refine fz_if_eq (tgt := 37) (by decide) hx hb dX10_times_32 (by decide) (fun h9 => absurd h9 (by decide)) (fun c32_ => ?_)
    refine lv_iconst (v := iZ 0) hx hb dX10_times_35 rfl ?_
    exact W.iret (v := iZ (0)) hx hb hr (fun t9 ht9 hW9 => ⟨⟨iZ (0), (μ4, 0), rfl, ⟨rfl, (by
                dsimp only
                first | exact ⟨hfr, by omega⟩ | exact ⟨fr_trans hfr w1, by omega⟩)⟩, by rw [ht9]; exact hP, va_K.moved hW9.alike hK⟩, hS.F ht9⟩) hS.2.2 dX10_times_36
  · have hpp := if_get hip (by omega)
    refine lv_aload_n hx hb dX10_times_14 rfl (lv_at hl 0 rfl) ?_
    refine lv_iload_n hx hb dX10_times_15 rfl (lv_at hl 2 rfl) ?_
    refine va_calli (va_runV (As := [.int (iZ (i))]) (rest := [.ref h0]) ⟨hx, hb, hml, hown, hts⟩ (m_isNode l dC dI cI cZ cII cIII h0 H.size μ1 (i) (by first | assumption | omega | exact ⟨by omega, by omega⟩) (by first | assumption | omega | exact ⟨by omega, by omega⟩)) (cwV 1 hts (gV_G k1619 k1621 ks_yX10_isNode k13 k1622) rfl rfl rfl (by decide +kernel) ⟨Nat.le_of_ble_eq_true rfl, Nat.le_of_ble_eq_true rfl⟩) ⟨fun a U g mk q => by obtain ⟨q0, q1, qP, qK⟩ := q; exact ⟨q0, q1, qP, va_K.moved (u := U) (U := U.calling g mk a) (Vm.Alike.refl U.vm) qK⟩, va_recv hK hP (ci := 10) (q0 := 0) rfl ((fw_get (by decide)).trans (by rw [mE_obj]; rfl)), fun U hU hW => ⟨rfl, by rw [hU], by rw [hU]; exact hP, va_K.moved hW.alike hK⟩⟩ rfl rfl hl.1 rfl (lv_room (Nat.le_of_ble_eq_true rfl)) dX10_times_16 ⟨Nat.le_of_ble_eq_true rfl, Nat.le_of_ble_eq_true rfl⟩) hS (fun q _ h => fA_le hS.1 q h) (fA_le hS.1) (fun r9 u9 t9 H1 locs ht9 hvm9 hw9 hB9 hz9 hk9 hS => ?_)
    obtain ⟨μ6, r7⟩ := u9
    obtain ⟨hP, -⟩ := hB9
    rw [ht9] at hP
    generalize H1 = H at hP hS ⊢
    obtain ⟨e9, hw9⟩ := hw9
    have e9 : r9 = iZ r7 := e9
    subst e9
    simp only at hP hw9
    have hμ6 := hw9; clear hw9
    rw [hμ6.1] at hP; have hμ6 := hμ6.2
    have hjn := hμ6
    have hjn2 := if_01 hμ6
    refine fz_if_ne (tgt := 26) (by constructor <;> omega) hx hb dX10_times_19 (by decide) (fun c19_ => ?_) (fun c19_ => ?_)
    · have hii := if_get hjn (by omega)
      refine lv_iconst (v := iZ 0) hx hb dX10_times_26 rfl ?_
      refine lv_iconst (v := iZ 1) hx hb dX10_times_27 rfl ?_
      refine lv_iconst (v := iZ 0) hx hb dX10_times_28 rfl ?_
      refine va_calli (va_runV (As := [.int (iZ (0)), .int (iZ (1)), .int (iZ (0))]) (rest := []) ⟨hx, hb, hml, hown, hts⟩ (m_bad2 l dC dI cI cZ cII cIII h0 H.size μ1 (0) (1) (0) (by first | assumption | omega | exact ⟨by omega, by omega⟩) (by first | assumption | omega | exact ⟨by omega, by omega⟩) (by first | assumption | omega | exact ⟨by omega, by omega⟩) (by first | assumption | omega | exact ⟨by omega, by omega⟩)) (cwV 3 hts (gV_G k1338 k1340 ks_yX10_bad k13 k1341) rfl rfl rfl (by decide +kernel) ⟨Nat.le_of_ble_eq_true rfl, Nat.le_of_ble_eq_true rfl⟩) ⟨fun a U g mk q => by obtain ⟨q0, q1, qP, qK⟩ := q; exact ⟨q0, q1, qP, va_K.moved (u := U) (U := U.calling g mk a) (Vm.Alike.refl U.vm) qK⟩, va_recv hK hP (ci := 10) (q0 := 0) rfl ((fw_get (by decide)).trans (by rw [mE_obj]; rfl)), fun U hU hW => ⟨rfl, by rw [hU], by rw [hU]; exact hP, va_K.moved hW.alike hK⟩⟩ rfl rfl hl.1 rfl (lv_room (Nat.le_of_ble_eq_true rfl)) dX10_times_29 ⟨Nat.le_of_ble_eq_true rfl, Nat.le_of_ble_eq_true rfl⟩) hS (fun q _ h => fA_le hS.1 q h) (fA_le hS.1) (fun r9 u9 t9 H1 locs ht9 hvm9 hw9 hB9 hz9 hk9 hS => ?_)
      obtain ⟨μ8, r10⟩ := u9
      obtain ⟨hP, -⟩ := hB9
      rw [ht9] at hP
      generalize H1 = H at hP hS ⊢
      obtain ⟨e9, hw9⟩ := hw9
      have e9 : r9 = iZ r10 := e9
      subst e9
      simp only at hP hw9
      have hμ8 := hw9; clear hw9
      have hfr := fr_trans hfr (badP_fr hμ8)
      have hrb := badP_r hμ8
      obtain rfl : r10 = 0 := by omega
      refine fz_if_eq (tgt := 37) (by decide) hx hb dX10_times_32 (by decide) (fun c32_ => ?_) (fun h9 => absurd h9 (by decide))
      have hQ2 := RQ_fr hQ hfr
      obtain ⟨k10, ⟨kT, kTb, kTw⟩, kS3, kPg, kw, kwB, kwT⟩ := hQ2
      have e10k := hfr 0 10 (PS_n (by omega))
      have e9k := hfr 0 9 (PS_n (by omega))
      have e71k := hfr 719 0 (PS_n (by omega))
      have ktk := TR_tok kwT kwB.1 kwB.2.1
      have kt1 := ktk.1
      have kt2 := ktk.2.1
      obtain ⟨p1, p2, p3, pw, pw1, pw2, pw3⟩ := kPg pp.toNat (by omega)
      have kT1 := kTb.1
      have kT2 := kTb.2.1
      refine lv_aload_n hx hb dX10_times_37 rfl (lv_at hl 0 rfl) ?_
      refine lv_iload_n hx hb dX10_times_38 rfl (lv_at hl 1 rfl) ?_
      refine va_calli (va_runV (As := [.int (iZ (pp))]) (rest := []) ⟨hx, hb, hml, hown, hts⟩ (m_walksPage l dC dI cI cZ cII cIII h0 H.size μ8 (pp) (by exact RQ_fr hQ hfr) (by omega)) (cwV 1 hts (gV_G k1663 k1665 ks_yX10_walksPage k13 k1666) rfl rfl rfl (by decide +kernel) ⟨Nat.le_of_ble_eq_true rfl, Nat.le_of_ble_eq_true rfl⟩) ⟨fun a U g mk q => by obtain ⟨q0, q1, qP, qK⟩ := q; exact ⟨q0, q1, qP, va_K.moved (u := U) (U := U.calling g mk a) (Vm.Alike.refl U.vm) qK⟩, va_recv hK hP (ci := 10) (q0 := 0) rfl ((fw_get (by decide)).trans (by rw [mE_obj]; rfl)), fun U hU hW => ⟨rfl, by rw [hU], by rw [hU]; exact hP, va_K.moved hW.alike hK⟩⟩ rfl rfl hl.1 rfl (lv_room (Nat.le_of_ble_eq_true rfl)) dX10_times_39 ⟨Nat.le_of_ble_eq_true rfl, Nat.le_of_ble_eq_true rfl⟩) hS (fun q _ h => fA_le hS.1 q h) (fA_le hS.1) (fun r9 u9 t9 H1 locs ht9 hvm9 hw9 hB9 hz9 hk9 hS => ?_)
      obtain ⟨μ11, r12⟩ := u9
      obtain ⟨hP, -⟩ := hB9
      rw [ht9] at hP
      generalize H1 = H at hP hS ⊢
      obtain ⟨e9, hw9⟩ := hw9
      have e9 : r9 = iZ r12 := e9
      subst e9
      simp only at hP hw9
      have hμ11 := hw9; clear hw9
      obtain ⟨w0, w2, w3⟩ := hμ11
      have w1 := fr_mono w0 (fun _ _ h => WKP_PS h)
      refine fz_if_eq (tgt := 54) (by constructor <;> omega) hx hb dX10_times_42 (by decide) (fun c42_ => ?_) (fun c42_ => ?_)
      · refine lv_iconst (v := iZ (-1)) hx hb dX10_times_54 rfl ?_
        exact W.iret (v := iZ ((-1))) hx hb hr (fun t9 ht9 hW9 => ⟨⟨iZ ((-1)), (μ11, (-1)), rfl, ⟨rfl, (by
                        dsimp only
                        first | exact ⟨hfr, by omega⟩ | exact ⟨fr_trans hfr w1, by omega⟩)⟩, by rw [ht9]; exact hP, va_K.moved hW9.alike hK⟩, hS.F ht9⟩) hS.2.2 dX10_times_55
      · refine lv_aload_n hx hb dX10_times_45 rfl (lv_at hl 0 rfl) ?_
        refine fz_get (D := (dC, dI)) (ci := 10) (v := .ref (h0 + 6319)) (C := RX10) (T := TX10) (N := 53) hx hb hts inG10 hown hK hP (k := 0) (by decide) (F := mF h0) mE_obj rfl 47 (by decide) (hts _ k1213) (fun _ h9 => h9) rfl dX10_times_46 ?_
        refine lv_iload_n hx hb dX10_times_49 rfl (lv_at hl 2 rfl) ?_
        refine fz_ld (k := 6319) (n := 900) hx hb hK hP 0 (by decide) mE_often rfl ⟨by omega, by omega⟩ (by decide) dX10_times_50 ?_
        refine lv_goto (tgt := 55) hx hb dX10_times_51 (by decide) ?_
        exact W.iret (v := iZ (μ11 6319 (i).toNat)) hx hb hr (fun t9 ht9 hW9 => ⟨⟨iZ (μ11 6319 (i).toNat), (μ11, μ11 6319 (i).toNat), rfl, ⟨rfl, (by
                        dsimp only
                        first | exact ⟨hfr, by omega⟩ | exact ⟨fr_trans hfr w1, by omega⟩)⟩, by rw [ht9]; exact hP, va_K.moved hW9.alike hK⟩, hS.F ht9⟩) hS.2.2 dX10_times_55
    · refine lv_iconst (v := iZ 1) hx hb dX10_times_22 rfl ?_
      refine lv_goto (tgt := 27) hx hb dX10_times_23 (by decide) ?_
      refine lv_iconst (v := iZ 1) hx hb dX10_times_27 rfl ?_
      refine lv_iconst (v := iZ 0) hx hb dX10_times_28 rfl ?_
      refine va_calli (va_runV (As := [.int (iZ (1)), .int (iZ (1)), .int (iZ (0))]) (rest := []) ⟨hx, hb, hml, hown, hts⟩ (m_bad2 l dC dI cI cZ cII cIII h0 H.size μ1 (1) (1) (0) (by first | assumption | omega | exact ⟨by omega, by omega⟩) (by first | assumption | omega | exact ⟨by omega, by omega⟩) (by first | assumption | omega | exact ⟨by omega, by omega⟩) (by first | assumption | omega | exact ⟨by omega, by omega⟩)) (cwV 3 hts (gV_G k1338 k1340 ks_yX10_bad k13 k1341) rfl rfl rfl (by decide +kernel) ⟨Nat.le_of_ble_eq_true rfl, Nat.le_of_ble_eq_true rfl⟩) ⟨fun a U g mk q => by obtain ⟨q0, q1, qP, qK⟩ := q; exact ⟨q0, q1, qP, va_K.moved (u := U) (U := U.calling g mk a) (Vm.Alike.refl U.vm) qK⟩, va_recv hK hP (ci := 10) (q0 := 0) rfl ((fw_get (by decide)).trans (by rw [mE_obj]; rfl)), fun U hU hW => ⟨rfl, by rw [hU], by rw [hU]; exact hP, va_K.moved hW.alike hK⟩⟩ rfl rfl hl.1 rfl (lv_room (Nat.le_of_ble_eq_true rfl)) dX10_times_29 ⟨Nat.le_of_ble_eq_true rfl, Nat.le_of_ble_eq_true rfl⟩) hS (fun q _ h => fA_le hS.1 q h) (fA_le hS.1) (fun r9 u9 t9 H1 locs ht9 hvm9 hw9 hB9 hz9 hk9 hS => ?_)
      obtain ⟨μ13, r14⟩ := u9
      obtain ⟨hP, -⟩ := hB9
      rw [ht9] at hP
      generalize H1 = H at hP hS ⊢
      obtain ⟨e9, hw9⟩ := hw9
      have e9 : r9 = iZ r14 := e9
      subst e9
      simp only at hP hw9
      have hμ13 := hw9; clear hw9
      have hfr := fr_trans hfr (badP_fr hμ13)
      have hrb := badP_r hμ13
      obtain rfl : r14 = 1 := by omega
      refine fz_if_eq (tgt := 37) (by decide) hx hb dX10_times_32 (by decide) (fun h9 => absurd h9 (by decide)) (fun c32_ => ?_)
      refine lv_iconst (v := iZ 0) hx hb dX10_times_35 rfl ?_
      exact W.iret (v := iZ (0)) hx hb hr (fun t9 ht9 hW9 => ⟨⟨iZ (0), (μ13, 0), rfl, ⟨rfl, (by
                    dsimp only
                    first | exact ⟨hfr, by omega⟩ | exact ⟨fr_trans hfr w1, by omega⟩)⟩, by rw [ht9]; exact hP, va_K.moved hW9.alike hK⟩, hS.F ht9⟩) hS.2.2 dX10_times_36
set_option maxHeartbeats 4000000 in
set_option maxRecDepth 100000 in
theorem m_passes (l : Launch) (dC : Nat → ClassId) (dI : Nat → Nat → Nat) (cI cZ cII cIII : ClassId) (h0 sz : Nat) (μ : va_M) (pp : Int) (i : Int) (hQ : RQ μ) (hp : inR pp) (hi9 : inR i) : Met l yX10_passes (Cond.code yX10_passes cX10_passes 3 (some .int) :: wsG) ({ frames := 9, cells := 0, slots := 0, locals := 215 } : Room) (va_Pc [.ref h0, .int (iZ (pp)), .int (iZ (i))] (fun U => U.heap.size = sz ∧ va_P (dC, dI) vwCl (fw (mE cI cZ cII cIII h0) h0 6325 μ) U.heap ∧ va_K (dC, dI) vwCl (mT cI cZ cII cIII) U)) (va_Qi (fun (r9 : Int32) (u : va_M × Int) => r9 = iZ u.2 ∧ (fun (u : va_M) (r : Int) => fr PS μ u ∧ (u 0 0 = 0 ∨ u 0 0 = 1 ∨ u 0 0 = 2)) u.1 u.2) (fun u t => va_P (dC, dI) vwCl (fw (mE cI cZ cII cIII h0) h0 6325 u.1) t.heap ∧ va_K (dC, dI) vwCl (mT cI cZ cII cIII) t) (fA h0 6325 sz)) 0 0 (fA h0 6325 sz) := by
  refine Met.ofW (cc := cX10_passes) (maxL := 3) (ret := (some .int)) (by decide) rfl ?_
  intro p e s m args below meth c s₁ B hml hv
  obtain ⟨rfl, hsz, hP, hK⟩ := hv
  have hx := B.exec
  have hb := B.bytes
  have hr := B.returns
  have hts : ∀ w ∈ wsG, w.before _ s = true := hG_of (atoms_spec (ws := (Cond.code yX10_passes cX10_passes 3 (some .int) :: wsG)) B.pre)
  have hown : s.vm.findClass RX10 = some m.cls := findClass_of_methodNamed B.named
  have hlocks := B.notSynchronized
  subst hsz
  have hS : va_S (fA h0 6325 s.heap.size) s.heap s.heap [] := va_S.rf
  have hl := lv_entry ([.ref h0, .int (iZ (pp)), .int (iZ (i))]) (n := 3) (Nat.le_of_ble_eq_true rfl)
  rw [lg_entry_eq]
  generalize (lg_sl ([.ref h0, .int (iZ (pp)), .int (iZ (i))]) ++ List.replicate (3 - (lg_sl ([.ref h0, .int (iZ (pp)), .int (iZ (i))])).length) Slot.unset).toArray = ls at hl ⊢
  have hl : lv_has ls 3 [(0, .ref h0), (1, .int (iZ (pp))), (2, .int (iZ (i)))] := hl
  refine lv_aload_n hx hb dX10_passes_0 rfl (lv_at hl 0 rfl) ?_
  refine lv_iconst (v := iZ 0) hx hb dX10_passes_1 rfl ?_
  refine fz_put (D := (dC, dI)) (ci := 10) (ty := .int) (z := 0) (C := RX10) (T := TX10) (N := 53) hx hb hts inG10 tyX10 tyX10_ok nmX10 hown hK hP fA_in hS (k := 0) (by decide) (F := mF h0) mE_obj rfl 0 (by decide) (hts _ k1166) (fun _ h9 => h9) rfl (by decide +kernel) rfl rfl (fun _ => Nat.le_of_ble_eq_true rfl) (fun _ _ => rfl) dX10_passes_2 (fun H locs hP hS => ?_)
  obtain ⟨μ1, eμ1⟩ : ∃ x : va_M, x = uz μ 0 0 (0) := ⟨_, rfl⟩
  rw [← eμ1] at hP
  have hfr : fr PS μ μ1 := by rw [eμ1]; exact fr_uz fr_rfl (by unfold PS; omega)
  have ht0 : μ1 0 0 = 0 := by rw [eμ1, uz_s]
  have e10 := hfr 0 10 (PS_n (by omega))
  have e9 := hfr 0 9 (PS_n (by omega))
  have e71 := hfr 719 0 (PS_n (by omega))
  have hQ1 := RQ_fr hQ hfr
  have hQc := hQ
  obtain ⟨f10, ⟨fT, fTb, fTw⟩, fS3, fPg, fw9, fwB, fwT⟩ := hQc
  obtain ⟨g10, ⟨gT, gTb, gTw⟩, gS3, gPg, gw, gwB, gwT⟩ := hQ1
  have gtk := TR_tok gwT gwB.1 gwB.2.1
  have gt1 := gtk.1
  have gt2 := gtk.2.1
  refine lv_aload_n hx hb dX10_passes_5 rfl (lv_at hl 0 rfl) ?_
  refine lv_aload_n hx hb dX10_passes_6 rfl (lv_at hl 0 rfl) ?_
  refine lv_iload_n hx hb dX10_passes_7 rfl (lv_at hl 1 rfl) ?_
  refine va_calli (va_runV (As := [.int (iZ (pp))]) (rest := [.ref h0]) ⟨hx, hb, hml, hown, hts⟩ (m_isPage l dC dI cI cZ cII cIII h0 H.size μ1 (pp) (by first | assumption | omega | exact ⟨by omega, by omega⟩) (by first | assumption | omega | exact ⟨by omega, by omega⟩)) (cwV 1 hts (gV_G k1584 k1586 ks_yX10_isPage k13 k1587) rfl rfl rfl (by decide +kernel) ⟨Nat.le_of_ble_eq_true rfl, Nat.le_of_ble_eq_true rfl⟩) ⟨fun a U g mk q => by obtain ⟨q0, q1, qP, qK⟩ := q; exact ⟨q0, q1, qP, va_K.moved (u := U) (U := U.calling g mk a) (Vm.Alike.refl U.vm) qK⟩, va_recv hK hP (ci := 10) (q0 := 0) rfl ((fw_get (by decide)).trans (by rw [mE_obj]; rfl)), fun U hU hW => ⟨rfl, by rw [hU], by rw [hU]; exact hP, va_K.moved hW.alike hK⟩⟩ rfl rfl hl.1 rfl (lv_room (Nat.le_of_ble_eq_true rfl)) dX10_passes_8 ⟨Nat.le_of_ble_eq_true rfl, Nat.le_of_ble_eq_true rfl⟩) hS (fun q _ h => fA_le hS.1 q h) (fA_le hS.1) (fun r9 u9 t9 H1 locs ht9 hvm9 hw9 hB9 hz9 hk9 hS => ?_)
  obtain ⟨μ2, r3⟩ := u9
  obtain ⟨hP, -⟩ := hB9
  rw [ht9] at hP
  generalize H1 = H at hP hS ⊢
  obtain ⟨e9, hw9⟩ := hw9
  have e9 : r9 = iZ r3 := e9
  subst e9
  simp only at hP hw9
  have hμ2 := hw9; clear hw9
  rw [hμ2.1] at hP; have hμ2 := hμ2.2
  have hip := hμ2
  have hip2 := if_01 hμ2
  refine fz_if_eq (tgt := 22) (by constructor <;> omega) hx hb dX10_passes_11 (by decide) (fun c11_ => ?_) (fun c11_ => ?_)
  · refine lv_iconst (v := iZ 1) hx hb dX10_passes_22 rfl ?_
    refine lv_goto (tgt := 27) hx hb dX10_passes_23 (by decide) ?_
    refine lv_iconst (v := iZ 1) hx hb dX10_passes_27 rfl ?_
    refine lv_iconst (v := iZ 0) hx hb dX10_passes_28 rfl ?_
    refine va_calli (va_runV (As := [.int (iZ (1)), .int (iZ (1)), .int (iZ (0))]) (rest := []) ⟨hx, hb, hml, hown, hts⟩ (m_bad2 l dC dI cI cZ cII cIII h0 H.size μ1 (1) (1) (0) (by first | assumption | omega | exact ⟨by omega, by omega⟩) (by first | assumption | omega | exact ⟨by omega, by omega⟩) (by first | assumption | omega | exact ⟨by omega, by omega⟩) (by first | assumption | omega | exact ⟨by omega, by omega⟩)) (cwV 3 hts (gV_G k1338 k1340 ks_yX10_bad k13 k1341) rfl rfl rfl (by decide +kernel) ⟨Nat.le_of_ble_eq_true rfl, Nat.le_of_ble_eq_true rfl⟩) ⟨fun a U g mk q => by obtain ⟨q0, q1, qP, qK⟩ := q; exact ⟨q0, q1, qP, va_K.moved (u := U) (U := U.calling g mk a) (Vm.Alike.refl U.vm) qK⟩, va_recv hK hP (ci := 10) (q0 := 0) rfl ((fw_get (by decide)).trans (by rw [mE_obj]; rfl)), fun U hU hW => ⟨rfl, by rw [hU], by rw [hU]; exact hP, va_K.moved hW.alike hK⟩⟩ rfl rfl hl.1 rfl (lv_room (Nat.le_of_ble_eq_true rfl)) dX10_passes_29 ⟨Nat.le_of_ble_eq_true rfl, Nat.le_of_ble_eq_true rfl⟩) hS (fun q _ h => fA_le hS.1 q h) (fA_le hS.1) (fun r9 u9 t9 H1 locs ht9 hvm9 hw9 hB9 hz9 hk9 hS => ?_)
    obtain ⟨μ4, r5⟩ := u9
    obtain ⟨hP, -⟩ := hB9
    rw [ht9] at hP
    generalize H1 = H at hP hS ⊢
    obtain ⟨e9, hw9⟩ := hw9
    have e9 : r9 = iZ r5 := e9
    subst e9
    simp only at hP hw9
    have hμ4 := hw9; clear hw9
    have hfr := fr_trans hfr (badP_fr hμ4)
    have hrb := badP_r hμ4
    obtain rfl : r5 = 1 := by omega
    refine fz_if_eq (tgt := 37) (by decide) hx hb dX10_passes_32 (by decide) (fun h9 => absurd h9 (by decide)) (fun c32_ => ?_)
    refine lv_iconst (v := iZ 0) hx hb dX10_passes_35 rfl ?_
    exact W.iret (v := iZ (0)) hx hb hr (fun t9 ht9 hW9 => ⟨⟨iZ (0), (μ4, 0), rfl, ⟨rfl, (by
                dsimp only
                first | exact ⟨hfr, by omega⟩ | exact ⟨fr_trans hfr w1, by omega⟩)⟩, by rw [ht9]; exact hP, va_K.moved hW9.alike hK⟩, hS.F ht9⟩) hS.2.2 dX10_passes_36
  · have hpp := if_get hip (by omega)
    refine lv_aload_n hx hb dX10_passes_14 rfl (lv_at hl 0 rfl) ?_
    refine lv_iload_n hx hb dX10_passes_15 rfl (lv_at hl 2 rfl) ?_
    refine va_calli (va_runV (As := [.int (iZ (i))]) (rest := [.ref h0]) ⟨hx, hb, hml, hown, hts⟩ (m_isNode l dC dI cI cZ cII cIII h0 H.size μ1 (i) (by first | assumption | omega | exact ⟨by omega, by omega⟩) (by first | assumption | omega | exact ⟨by omega, by omega⟩)) (cwV 1 hts (gV_G k1619 k1621 ks_yX10_isNode k13 k1622) rfl rfl rfl (by decide +kernel) ⟨Nat.le_of_ble_eq_true rfl, Nat.le_of_ble_eq_true rfl⟩) ⟨fun a U g mk q => by obtain ⟨q0, q1, qP, qK⟩ := q; exact ⟨q0, q1, qP, va_K.moved (u := U) (U := U.calling g mk a) (Vm.Alike.refl U.vm) qK⟩, va_recv hK hP (ci := 10) (q0 := 0) rfl ((fw_get (by decide)).trans (by rw [mE_obj]; rfl)), fun U hU hW => ⟨rfl, by rw [hU], by rw [hU]; exact hP, va_K.moved hW.alike hK⟩⟩ rfl rfl hl.1 rfl (lv_room (Nat.le_of_ble_eq_true rfl)) dX10_passes_16 ⟨Nat.le_of_ble_eq_true rfl, Nat.le_of_ble_eq_true rfl⟩) hS (fun q _ h => fA_le hS.1 q h) (fA_le hS.1) (fun r9 u9 t9 H1 locs ht9 hvm9 hw9 hB9 hz9 hk9 hS => ?_)
    obtain ⟨μ6, r7⟩ := u9
    obtain ⟨hP, -⟩ := hB9
    rw [ht9] at hP
    generalize H1 = H at hP hS ⊢
    obtain ⟨e9, hw9⟩ := hw9
    have e9 : r9 = iZ r7 := e9
    subst e9
    simp only at hP hw9
    have hμ6 := hw9; clear hw9
    rw [hμ6.1] at hP; have hμ6 := hμ6.2
    have hjn := hμ6
    have hjn2 := if_01 hμ6
    refine fz_if_ne (tgt := 26) (by constructor <;> omega) hx hb dX10_passes_19 (by decide) (fun c19_ => ?_) (fun c19_ => ?_)
    · have hii := if_get hjn (by omega)
      refine lv_iconst (v := iZ 0) hx hb dX10_passes_26 rfl ?_
      refine lv_iconst (v := iZ 1) hx hb dX10_passes_27 rfl ?_
      refine lv_iconst (v := iZ 0) hx hb dX10_passes_28 rfl ?_
      refine va_calli (va_runV (As := [.int (iZ (0)), .int (iZ (1)), .int (iZ (0))]) (rest := []) ⟨hx, hb, hml, hown, hts⟩ (m_bad2 l dC dI cI cZ cII cIII h0 H.size μ1 (0) (1) (0) (by first | assumption | omega | exact ⟨by omega, by omega⟩) (by first | assumption | omega | exact ⟨by omega, by omega⟩) (by first | assumption | omega | exact ⟨by omega, by omega⟩) (by first | assumption | omega | exact ⟨by omega, by omega⟩)) (cwV 3 hts (gV_G k1338 k1340 ks_yX10_bad k13 k1341) rfl rfl rfl (by decide +kernel) ⟨Nat.le_of_ble_eq_true rfl, Nat.le_of_ble_eq_true rfl⟩) ⟨fun a U g mk q => by obtain ⟨q0, q1, qP, qK⟩ := q; exact ⟨q0, q1, qP, va_K.moved (u := U) (U := U.calling g mk a) (Vm.Alike.refl U.vm) qK⟩, va_recv hK hP (ci := 10) (q0 := 0) rfl ((fw_get (by decide)).trans (by rw [mE_obj]; rfl)), fun U hU hW => ⟨rfl, by rw [hU], by rw [hU]; exact hP, va_K.moved hW.alike hK⟩⟩ rfl rfl hl.1 rfl (lv_room (Nat.le_of_ble_eq_true rfl)) dX10_passes_29 ⟨Nat.le_of_ble_eq_true rfl, Nat.le_of_ble_eq_true rfl⟩) hS (fun q _ h => fA_le hS.1 q h) (fA_le hS.1) (fun r9 u9 t9 H1 locs ht9 hvm9 hw9 hB9 hz9 hk9 hS => ?_)
      obtain ⟨μ8, r10⟩ := u9
      obtain ⟨hP, -⟩ := hB9
      rw [ht9] at hP
      generalize H1 = H at hP hS ⊢
      obtain ⟨e9, hw9⟩ := hw9
      have e9 : r9 = iZ r10 := e9
      subst e9
      simp only at hP hw9
      have hμ8 := hw9; clear hw9
      have hfr := fr_trans hfr (badP_fr hμ8)
      have hrb := badP_r hμ8
      obtain rfl : r10 = 0 := by omega
      refine fz_if_eq (tgt := 37) (by decide) hx hb dX10_passes_32 (by decide) (fun c32_ => ?_) (fun h9 => absurd h9 (by decide))
      have hQ2 := RQ_fr hQ hfr
      obtain ⟨k10, ⟨kT, kTb, kTw⟩, kS3, kPg, kw, kwB, kwT⟩ := hQ2
      have e10k := hfr 0 10 (PS_n (by omega))
      have e9k := hfr 0 9 (PS_n (by omega))
      have e71k := hfr 719 0 (PS_n (by omega))
      have ktk := TR_tok kwT kwB.1 kwB.2.1
      have kt1 := ktk.1
      have kt2 := ktk.2.1
      obtain ⟨p1, p2, p3, pw, pw1, pw2, pw3⟩ := kPg pp.toNat (by omega)
      have kT1 := kTb.1
      have kT2 := kTb.2.1
      obtain ⟨cc1, cc2, cc3, cc4⟩ := ktk.2.2 i.toNat (by omega)
      refine lv_aload_n hx hb dX10_passes_37 rfl (lv_at hl 0 rfl) ?_
      refine fz_get (D := (dC, dI)) (ci := 10) (v := .ref (h0 + 506)) (C := RX10) (T := TX10) (N := 53) hx hb hts inG10 hown hK hP (k := 0) (by decide) (F := mF h0) mE_obj rfl 18 (by decide) (hts _ k1184) (fun _ h9 => h9) rfl dX10_passes_38 ?_
      refine lv_iconst (v := iZ 0) hx hb dX10_passes_41 rfl ?_
      refine fz_ald (k := 506) (n := 70) (k2 := (507 + 0)) hx hb hK hP 2 rfl (by decide) mE_sort rfl ⟨by omega, by omega⟩ (by decide) (if_pos (by omega)) dX10_passes_42 ?_
      refine lv_iload_n hx hb dX10_passes_43 rfl (lv_at hl 2 rfl) ?_
      refine fz_ld (k := (507 + 0)) (n := 900) hx hb hK hP 0 (by omega) (mE_sortR (by omega)) rfl ⟨by omega, by omega⟩ (by decide) dX10_passes_44 ?_
      refine lv_iconst (v := iZ 4) hx hb dX10_passes_45 rfl ?_
      refine fz_icmp_ne (tgt := 66) (by constructor <;> omega) (by decide) hx hb dX10_passes_46 (by decide) (fun c46_ => ?_) (fun c46_ => ?_)
      · refine lv_iconst (v := iZ (-1)) hx hb dX10_passes_66 rfl ?_
        exact W.iret (v := iZ ((-1))) hx hb hr (fun t9 ht9 hW9 => ⟨⟨iZ ((-1)), (μ8, (-1)), rfl, ⟨rfl, (by
                        dsimp only
                        first | exact ⟨hfr, by omega⟩ | exact ⟨fr_trans hfr w1, by omega⟩)⟩, by rw [ht9]; exact hP, va_K.moved hW9.alike hK⟩, hS.F ht9⟩) hS.2.2 dX10_passes_67
      · refine lv_aload_n hx hb dX10_passes_49 rfl (lv_at hl 0 rfl) ?_
        refine lv_iload_n hx hb dX10_passes_50 rfl (lv_at hl 1 rfl) ?_
        refine va_calli (va_runV (As := [.int (iZ (pp))]) (rest := []) ⟨hx, hb, hml, hown, hts⟩ (m_walksPage l dC dI cI cZ cII cIII h0 H.size μ8 (pp) (by exact RQ_fr hQ hfr) (by omega)) (cwV 1 hts (gV_G k1663 k1665 ks_yX10_walksPage k13 k1666) rfl rfl rfl (by decide +kernel) ⟨Nat.le_of_ble_eq_true rfl, Nat.le_of_ble_eq_true rfl⟩) ⟨fun a U g mk q => by obtain ⟨q0, q1, qP, qK⟩ := q; exact ⟨q0, q1, qP, va_K.moved (u := U) (U := U.calling g mk a) (Vm.Alike.refl U.vm) qK⟩, va_recv hK hP (ci := 10) (q0 := 0) rfl ((fw_get (by decide)).trans (by rw [mE_obj]; rfl)), fun U hU hW => ⟨rfl, by rw [hU], by rw [hU]; exact hP, va_K.moved hW.alike hK⟩⟩ rfl rfl hl.1 rfl (lv_room (Nat.le_of_ble_eq_true rfl)) dX10_passes_51 ⟨Nat.le_of_ble_eq_true rfl, Nat.le_of_ble_eq_true rfl⟩) hS (fun q _ h => fA_le hS.1 q h) (fA_le hS.1) (fun r9 u9 t9 H1 locs ht9 hvm9 hw9 hB9 hz9 hk9 hS => ?_)
        obtain ⟨μ11, r12⟩ := u9
        obtain ⟨hP, -⟩ := hB9
        rw [ht9] at hP
        generalize H1 = H at hP hS ⊢
        obtain ⟨e9, hw9⟩ := hw9
        have e9 : r9 = iZ r12 := e9
        subst e9
        simp only at hP hw9
        have hμ11 := hw9; clear hw9
        obtain ⟨w0, w2, w3⟩ := hμ11
        have w1 := fr_mono w0 (fun _ _ h => WKP_PS h)
        refine fz_if_eq (tgt := 66) (by constructor <;> omega) hx hb dX10_passes_54 (by decide) (fun c54_ => ?_) (fun c54_ => ?_)
        · refine lv_iconst (v := iZ (-1)) hx hb dX10_passes_66 rfl ?_
          exact W.iret (v := iZ ((-1))) hx hb hr (fun t9 ht9 hW9 => ⟨⟨iZ ((-1)), (μ11, (-1)), rfl, ⟨rfl, (by
                            dsimp only
                            first | exact ⟨hfr, by omega⟩ | exact ⟨fr_trans hfr w1, by omega⟩)⟩, by rw [ht9]; exact hP, va_K.moved hW9.alike hK⟩, hS.F ht9⟩) hS.2.2 dX10_passes_67
        · refine lv_aload_n hx hb dX10_passes_57 rfl (lv_at hl 0 rfl) ?_
          refine fz_get (D := (dC, dI)) (ci := 10) (v := .ref (h0 + 6320)) (C := RX10) (T := TX10) (N := 53) hx hb hts inG10 hown hK hP (k := 0) (by decide) (F := mF h0) mE_obj rfl 48 (by decide) (hts _ k1214) (fun _ h9 => h9) rfl dX10_passes_58 ?_
          refine lv_iload_n hx hb dX10_passes_61 rfl (lv_at hl 2 rfl) ?_
          refine fz_ld (k := 6320) (n := 900) hx hb hK hP 0 (by decide) mE_passed rfl ⟨by omega, by omega⟩ (by decide) dX10_passes_62 ?_
          refine lv_goto (tgt := 67) hx hb dX10_passes_63 (by decide) ?_
          exact W.iret (v := iZ (μ11 6320 (i).toNat)) hx hb hr (fun t9 ht9 hW9 => ⟨⟨iZ (μ11 6320 (i).toNat), (μ11, μ11 6320 (i).toNat), rfl, ⟨rfl, (by
                            dsimp only
                            first | exact ⟨hfr, by omega⟩ | exact ⟨fr_trans hfr w1, by omega⟩)⟩, by rw [ht9]; exact hP, va_K.moved hW9.alike hK⟩, hS.F ht9⟩) hS.2.2 dX10_passes_67
    · refine lv_iconst (v := iZ 1) hx hb dX10_passes_22 rfl ?_
      refine lv_goto (tgt := 27) hx hb dX10_passes_23 (by decide) ?_
      refine lv_iconst (v := iZ 1) hx hb dX10_passes_27 rfl ?_
      refine lv_iconst (v := iZ 0) hx hb dX10_passes_28 rfl ?_
      refine va_calli (va_runV (As := [.int (iZ (1)), .int (iZ (1)), .int (iZ (0))]) (rest := []) ⟨hx, hb, hml, hown, hts⟩ (m_bad2 l dC dI cI cZ cII cIII h0 H.size μ1 (1) (1) (0) (by first | assumption | omega | exact ⟨by omega, by omega⟩) (by first | assumption | omega | exact ⟨by omega, by omega⟩) (by first | assumption | omega | exact ⟨by omega, by omega⟩) (by first | assumption | omega | exact ⟨by omega, by omega⟩)) (cwV 3 hts (gV_G k1338 k1340 ks_yX10_bad k13 k1341) rfl rfl rfl (by decide +kernel) ⟨Nat.le_of_ble_eq_true rfl, Nat.le_of_ble_eq_true rfl⟩) ⟨fun a U g mk q => by obtain ⟨q0, q1, qP, qK⟩ := q; exact ⟨q0, q1, qP, va_K.moved (u := U) (U := U.calling g mk a) (Vm.Alike.refl U.vm) qK⟩, va_recv hK hP (ci := 10) (q0 := 0) rfl ((fw_get (by decide)).trans (by rw [mE_obj]; rfl)), fun U hU hW => ⟨rfl, by rw [hU], by rw [hU]; exact hP, va_K.moved hW.alike hK⟩⟩ rfl rfl hl.1 rfl (lv_room (Nat.le_of_ble_eq_true rfl)) dX10_passes_29 ⟨Nat.le_of_ble_eq_true rfl, Nat.le_of_ble_eq_true rfl⟩) hS (fun q _ h => fA_le hS.1 q h) (fA_le hS.1) (fun r9 u9 t9 H1 locs ht9 hvm9 hw9 hB9 hz9 hk9 hS => ?_)
      obtain ⟨μ13, r14⟩ := u9
      obtain ⟨hP, -⟩ := hB9
      rw [ht9] at hP
      generalize H1 = H at hP hS ⊢
      obtain ⟨e9, hw9⟩ := hw9
      have e9 : r9 = iZ r14 := e9
      subst e9
      simp only at hP hw9
      have hμ13 := hw9; clear hw9
      have hfr := fr_trans hfr (badP_fr hμ13)
      have hrb := badP_r hμ13
      obtain rfl : r14 = 1 := by omega
      refine fz_if_eq (tgt := 37) (by decide) hx hb dX10_passes_32 (by decide) (fun h9 => absurd h9 (by decide)) (fun c32_ => ?_)
      refine lv_iconst (v := iZ 0) hx hb dX10_passes_35 rfl ?_
      exact W.iret (v := iZ (0)) hx hb hr (fun t9 ht9 hW9 => ⟨⟨iZ (0), (μ13, 0), rfl, ⟨rfl, (by
                    dsimp only
                    first | exact ⟨hfr, by omega⟩ | exact ⟨fr_trans hfr w1, by omega⟩)⟩, by rw [ht9]; exact hP, va_K.moved hW9.alike hK⟩, hS.F ht9⟩) hS.2.2 dX10_passes_36
set_option maxHeartbeats 4000000 in
set_option maxRecDepth 100000 in
theorem LX10_value_65 {p : Program} {l : Launch} {e : Env} {R : Room} {s : State} {m : MethodId} {args : Array Value} {below : List Frame} {meth : Method} {c : Code} {cells slots : Nat} {Q : State → Prop} {dC : Nat → ClassId} {dI : Nat → Nat → Nat} {h0 : Nat} {cI cZ cII cIII : ClassId} (hx : p.tables.exec = Jvm.exec) (hb : c.code = cX10_value) (hml : c.maxLocals = 6) (hown : s.vm.findClass RX10 = some m.cls) (hts : ∀ w ∈ wsG, w.before args s = true) (hK : va_K (dC, dI) vwCl (mT cI cZ cII cIII) s) (hRf : 9 ≤ R.frames) (hRl : 215 ≤ R.locals) (hRc : cells ≤ R.cells) (hRs : slots ≤ R.slots) (μ0 : va_M) (pp : Int) (i : Int) (j : Int) (hpp : 0 ≤ pp ∧ pp < 8) (hP0 : 0 ≤ μ0 15 pp.toNat ∧ μ0 15 pp.toNat ≤ 60) (htk : ∀ k : Nat, (k : Int) < μ0 15 pp.toNat → 0 ≤ μ0 6321 k ∧ μ0 6321 k < 900) (hi : inR i) (hj : inR j) (hexit96 : ∀ (n : Int) (k : Int) (μ : va_M) (H : Heap) (locs : List Loc) (ls : Array Slot), (μ = μ0) → (0 ≤ k ∧ k < μ0 15 pp.toNat) → va_P (dC, dI) vwCl (fw (mE cI cZ cII cIII h0) h0 6325 μ) H → va_S (fA h0 6325 s.heap.size) s.heap H locs → lv_has ls 6 [(5, .int (iZ (k))), (1, .int (iZ (pp))), (0, .ref h0)] → W p l e R s m args below meth c H locs cells slots Q (F0 m 96 ls [])) (hexit115 : ∀ (n : Int) (k : Int) (μ : va_M) (H : Heap) (locs : List Loc) (ls : Array Slot), (μ = μ0) → va_P (dC, dI) vwCl (fw (mE cI cZ cII cIII h0) h0 6325 μ) H → va_S (fA h0 6325 s.heap.size) s.heap H locs → lv_has ls 6 [] → W p l e R s m args below meth c H locs cells slots Q (F0 m 115 ls [])) :
    ∀ (n9 : Nat) (n : Int) (k : Int) (μ : va_M) (H : Heap) (locs : List Loc) (ls : Array Slot), (μ = μ0) → (0 ≤ k ∧ k ≤ μ0 15 pp.toNat) → (0 ≤ n ∧ n ≤ k) → (100 - k).toNat < n9 → va_P (dC, dI) vwCl (fw (mE cI cZ cII cIII h0) h0 6325 μ) H → va_S (fA h0 6325 s.heap.size) s.heap H locs → lv_has ls 6 [(5, .int (iZ (k))), (4, .int (iZ (n))), (3, .int (iZ (j))), (2, .int (iZ (i))), (1, .int (iZ (pp))), (0, .ref h0)] → W p l e R s m args below meth c H locs cells slots Q (F0 m 65 ls []) := by
  intro n9
  induction n9 with
  | zero => intro n k μ H locs ls hm hk hn hm9 hP hS hl; exact absurd hm9 (Nat.not_lt_zero _)
  | succ n9 ih =>
    intro n k μ H locs ls hm hk hn hm9 hP hS hl
    subst hm
    refine lv_iload hx hb dX10_value_65 (lv_at hl 0 rfl) ?_
    refine lv_aload_n hx hb dX10_value_67 rfl (lv_at hl 5 rfl) ?_
    refine fz_get (D := (dC, dI)) (ci := 10) (v := .ref (h0 + 15)) (C := RX10) (T := TX10) (N := 53) hx hb hts inG10 hown hK hP (k := 0) (by decide) (F := mF h0) mE_obj rfl 15 (by decide) (hts _ k1181) (fun _ h9 => h9) rfl dX10_value_68 ?_
    refine lv_iload_n hx hb dX10_value_71 rfl (lv_at hl 4 rfl) ?_
    refine fz_ld (k := 15) (n := 8) hx hb hK hP 0 (by decide) mE_pageLong rfl ⟨by omega, by omega⟩ (by decide) dX10_value_72 ?_
    refine fz_icmp_ge (tgt := 115) (by constructor <;> omega) (by constructor <;> omega) hx hb dX10_value_73 (by decide) (fun c73_ => ?_) (fun c73_ => ?_)
    · exact hexit115 (n) (k) μ H locs ls (by rfl) hP hS (lv_sub hl [] rfl)
    · have ht9 := htk k.toNat (by omega)
      refine lv_aload_n hx hb dX10_value_76 rfl (lv_at hl 5 rfl) ?_
      refine fz_get (D := (dC, dI)) (ci := 10) (v := .ref (h0 + 6321)) (C := RX10) (T := TX10) (N := 53) hx hb hts inG10 hown hK hP (k := 0) (by decide) (F := mF h0) mE_obj rfl 49 (by decide) (hts _ k1215) (fun _ h9 => h9) rfl dX10_value_77 ?_
      refine lv_iload hx hb dX10_value_80 (lv_at hl 0 rfl) ?_
      refine fz_ld (k := 6321) (n := 60) hx hb hK hP 0 (by decide) mE_takerOf rfl ⟨by omega, by omega⟩ (by decide) dX10_value_82 ?_
      refine lv_iload_n hx hb dX10_value_83 rfl (lv_at hl 3 rfl) ?_
      refine fz_icmp_eq (tgt := 90) (by first | exact hi | (constructor <;> omega)) (by first | exact hi | (constructor <;> omega)) hx hb dX10_value_84 (by decide) (fun c84_ => ?_) (fun c84_ => ?_)
      · refine lv_iload hx hb dX10_value_90 (lv_at hl 1 rfl) ?_
        refine lv_iload_n hx hb dX10_value_92 rfl (lv_at hl 2 rfl) ?_
        refine fz_icmp_ne (tgt := 106) (by first | exact hj | (constructor <;> omega)) (by first | exact hj | (constructor <;> omega)) hx hb dX10_value_93 (by decide) (fun c93_ => ?_) (fun c93_ => ?_)
        · refine lv_iinc (v := iZ (n + 1)) (lv' := [(4, .int (iZ (n + 1))), (5, .int (iZ (k))), (3, .int (iZ (j))), (2, .int (iZ (i))), (1, .int (iZ (pp))), (0, .ref h0)]) hx hb dX10_value_106 hl (k := 1) rfl (iZ_add _ _) (by decide) rfl (fun ls hl => ?_)
          refine lv_iinc (v := iZ (k + 1)) (lv' := [(5, .int (iZ (k + 1))), (4, .int (iZ (n + 1))), (3, .int (iZ (j))), (2, .int (iZ (i))), (1, .int (iZ (pp))), (0, .ref h0)]) hx hb dX10_value_109 hl (k := 1) rfl (iZ_add _ _) (by decide) rfl (fun ls hl => ?_)
          refine lv_goto (tgt := 65) hx hb dX10_value_112 (by decide) ?_
          exact ih (n + 1) (k + 1) μ H locs ls (by rfl) (by omega) (by omega) (by omega) hP hS (lv_sub hl [0, 1, 2, 3, 4, 5] rfl)
        · exact hexit96 (n) (k) μ H locs ls (by rfl) (by omega) hP hS (lv_sub hl [0, 4, 5] rfl)
      · refine lv_goto (tgt := 109) hx hb dX10_value_87 (by decide) ?_
        refine lv_iinc (v := iZ (k + 1)) (lv' := [(5, .int (iZ (k + 1))), (4, .int (iZ (n))), (3, .int (iZ (j))), (2, .int (iZ (i))), (1, .int (iZ (pp))), (0, .ref h0)]) hx hb dX10_value_109 hl (k := 0) rfl (iZ_add _ _) (by decide) rfl (fun ls hl => ?_)
        refine lv_goto (tgt := 65) hx hb dX10_value_112 (by decide) ?_
        exact ih (n) (k + 1) μ H locs ls (by rfl) (by omega) (by omega) (by omega) hP hS (lv_sub hl [0, 1, 2, 3, 4, 5] rfl)
set_option maxHeartbeats 4000000 in
set_option maxRecDepth 100000 in
theorem m_value (l : Launch) (dC : Nat → ClassId) (dI : Nat → Nat → Nat) (cI cZ cII cIII : ClassId) (h0 sz : Nat) (μ : va_M) (pp : Int) (i : Int) (j : Int) (hQ : RQ μ) (hp : inR pp) (hi9 : inR i) (hj9 : inR j) : Met l yX10_value (Cond.code yX10_value cX10_value 6 (some .int) :: wsG) ({ frames := 9, cells := 0, slots := 0, locals := 215 } : Room) (va_Pc [.ref h0, .int (iZ (pp)), .int (iZ (i)), .int (iZ (j))] (fun U => U.heap.size = sz ∧ va_P (dC, dI) vwCl (fw (mE cI cZ cII cIII h0) h0 6325 μ) U.heap ∧ va_K (dC, dI) vwCl (mT cI cZ cII cIII) U)) (va_Qi (fun (r9 : Int32) (u : va_M × Int) => r9 = iZ u.2 ∧ (fun (u : va_M) (r : Int) => fr PS μ u ∧ (u 0 0 = 0 ∨ u 0 0 = 1 ∨ u 0 0 = 2)) u.1 u.2) (fun u t => va_P (dC, dI) vwCl (fw (mE cI cZ cII cIII h0) h0 6325 u.1) t.heap ∧ va_K (dC, dI) vwCl (mT cI cZ cII cIII) t) (fA h0 6325 sz)) 0 0 (fA h0 6325 sz) := by
  refine Met.ofW (cc := cX10_value) (maxL := 6) (ret := (some .int)) (by decide) rfl ?_
  intro p e s m args below meth c s₁ B hml hv
  obtain ⟨rfl, hsz, hP, hK⟩ := hv
  have hx := B.exec
  have hb := B.bytes
  have hr := B.returns
  have hts : ∀ w ∈ wsG, w.before _ s = true := hG_of (atoms_spec (ws := (Cond.code yX10_value cX10_value 6 (some .int) :: wsG)) B.pre)
  have hown : s.vm.findClass RX10 = some m.cls := findClass_of_methodNamed B.named
  have hlocks := B.notSynchronized
  subst hsz
  have hS : va_S (fA h0 6325 s.heap.size) s.heap s.heap [] := va_S.rf
  have hl := lv_entry ([.ref h0, .int (iZ (pp)), .int (iZ (i)), .int (iZ (j))]) (n := 6) (Nat.le_of_ble_eq_true rfl)
  rw [lg_entry_eq]
  generalize (lg_sl ([.ref h0, .int (iZ (pp)), .int (iZ (i)), .int (iZ (j))]) ++ List.replicate (6 - (lg_sl ([.ref h0, .int (iZ (pp)), .int (iZ (i)), .int (iZ (j))])).length) Slot.unset).toArray = ls at hl ⊢
  have hl : lv_has ls 6 [(0, .ref h0), (1, .int (iZ (pp))), (2, .int (iZ (i))), (3, .int (iZ (j)))] := hl
  refine lv_aload_n hx hb dX10_value_0 rfl (lv_at hl 0 rfl) ?_
  refine lv_iconst (v := iZ 0) hx hb dX10_value_1 rfl ?_
  refine fz_put (D := (dC, dI)) (ci := 10) (ty := .int) (z := 0) (C := RX10) (T := TX10) (N := 53) hx hb hts inG10 tyX10 tyX10_ok nmX10 hown hK hP fA_in hS (k := 0) (by decide) (F := mF h0) mE_obj rfl 0 (by decide) (hts _ k1166) (fun _ h9 => h9) rfl (by decide +kernel) rfl rfl (fun _ => Nat.le_of_ble_eq_true rfl) (fun _ _ => rfl) dX10_value_2 (fun H locs hP hS => ?_)
  obtain ⟨μ1, eμ1⟩ : ∃ x : va_M, x = uz μ 0 0 (0) := ⟨_, rfl⟩
  rw [← eμ1] at hP
  have hfr : fr PS μ μ1 := by rw [eμ1]; exact fr_uz fr_rfl (by unfold PS; omega)
  have ht0 : μ1 0 0 = 0 := by rw [eμ1, uz_s]
  have e10 := hfr 0 10 (PS_n (by omega))
  have e9 := hfr 0 9 (PS_n (by omega))
  have e71 := hfr 719 0 (PS_n (by omega))
  have hQ1 := RQ_fr hQ hfr
  have hQc := hQ
  obtain ⟨f10, ⟨fT, fTb, fTw⟩, fS3, fPg, fw9, fwB, fwT⟩ := hQc
  obtain ⟨g10, ⟨gT, gTb, gTw⟩, gS3, gPg, gw, gwB, gwT⟩ := hQ1
  have gtk := TR_tok gwT gwB.1 gwB.2.1
  have gt1 := gtk.1
  have gt2 := gtk.2.1
  refine lv_aload_n hx hb dX10_value_5 rfl (lv_at hl 0 rfl) ?_
  refine lv_aload_n hx hb dX10_value_6 rfl (lv_at hl 0 rfl) ?_
  refine lv_iload_n hx hb dX10_value_7 rfl (lv_at hl 1 rfl) ?_
  refine va_calli (va_runV (As := [.int (iZ (pp))]) (rest := [.ref h0]) ⟨hx, hb, hml, hown, hts⟩ (m_isPage l dC dI cI cZ cII cIII h0 H.size μ1 (pp) (by first | assumption | omega | exact ⟨by omega, by omega⟩) (by first | assumption | omega | exact ⟨by omega, by omega⟩)) (cwV 1 hts (gV_G k1584 k1586 ks_yX10_isPage k13 k1587) rfl rfl rfl (by decide +kernel) ⟨Nat.le_of_ble_eq_true rfl, Nat.le_of_ble_eq_true rfl⟩) ⟨fun a U g mk q => by obtain ⟨q0, q1, qP, qK⟩ := q; exact ⟨q0, q1, qP, va_K.moved (u := U) (U := U.calling g mk a) (Vm.Alike.refl U.vm) qK⟩, va_recv hK hP (ci := 10) (q0 := 0) rfl ((fw_get (by decide)).trans (by rw [mE_obj]; rfl)), fun U hU hW => ⟨rfl, by rw [hU], by rw [hU]; exact hP, va_K.moved hW.alike hK⟩⟩ rfl rfl hl.1 rfl (lv_room (Nat.le_of_ble_eq_true rfl)) dX10_value_8 ⟨Nat.le_of_ble_eq_true rfl, Nat.le_of_ble_eq_true rfl⟩) hS (fun q _ h => fA_le hS.1 q h) (fA_le hS.1) (fun r9 u9 t9 H1 locs ht9 hvm9 hw9 hB9 hz9 hk9 hS => ?_)
  obtain ⟨μ2, r3⟩ := u9
  obtain ⟨hP, -⟩ := hB9
  rw [ht9] at hP
  generalize H1 = H at hP hS ⊢
  obtain ⟨e9, hw9⟩ := hw9
  have e9 : r9 = iZ r3 := e9
  subst e9
  simp only at hP hw9
  have hμ2 := hw9; clear hw9
  rw [hμ2.1] at hP; have hμ2 := hμ2.2
  have hip := hμ2
  have hip2 := if_01 hμ2
  refine fz_if_eq (tgt := 22) (by constructor <;> omega) hx hb dX10_value_11 (by decide) (fun c11_ => ?_) (fun c11_ => ?_)
  · refine lv_iconst (v := iZ 1) hx hb dX10_value_22 rfl ?_
    refine lv_goto (tgt := 27) hx hb dX10_value_23 (by decide) ?_
    refine lv_iconst (v := iZ 1) hx hb dX10_value_27 rfl ?_
    refine lv_iconst (v := iZ 0) hx hb dX10_value_28 rfl ?_
    refine va_calli (va_runV (As := [.int (iZ (1)), .int (iZ (1)), .int (iZ (0))]) (rest := []) ⟨hx, hb, hml, hown, hts⟩ (m_bad2 l dC dI cI cZ cII cIII h0 H.size μ1 (1) (1) (0) (by first | assumption | omega | exact ⟨by omega, by omega⟩) (by first | assumption | omega | exact ⟨by omega, by omega⟩) (by first | assumption | omega | exact ⟨by omega, by omega⟩) (by first | assumption | omega | exact ⟨by omega, by omega⟩)) (cwV 3 hts (gV_G k1338 k1340 ks_yX10_bad k13 k1341) rfl rfl rfl (by decide +kernel) ⟨Nat.le_of_ble_eq_true rfl, Nat.le_of_ble_eq_true rfl⟩) ⟨fun a U g mk q => by obtain ⟨q0, q1, qP, qK⟩ := q; exact ⟨q0, q1, qP, va_K.moved (u := U) (U := U.calling g mk a) (Vm.Alike.refl U.vm) qK⟩, va_recv hK hP (ci := 10) (q0 := 0) rfl ((fw_get (by decide)).trans (by rw [mE_obj]; rfl)), fun U hU hW => ⟨rfl, by rw [hU], by rw [hU]; exact hP, va_K.moved hW.alike hK⟩⟩ rfl rfl hl.1 rfl (lv_room (Nat.le_of_ble_eq_true rfl)) dX10_value_29 ⟨Nat.le_of_ble_eq_true rfl, Nat.le_of_ble_eq_true rfl⟩) hS (fun q _ h => fA_le hS.1 q h) (fA_le hS.1) (fun r9 u9 t9 H1 locs ht9 hvm9 hw9 hB9 hz9 hk9 hS => ?_)
    obtain ⟨μ4, r5⟩ := u9
    obtain ⟨hP, -⟩ := hB9
    rw [ht9] at hP
    generalize H1 = H at hP hS ⊢
    obtain ⟨e9, hw9⟩ := hw9
    have e9 : r9 = iZ r5 := e9
    subst e9
    simp only at hP hw9
    have hμ4 := hw9; clear hw9
    have hfr := fr_trans hfr (badP_fr hμ4)
    have hrb := badP_r hμ4
    obtain rfl : r5 = 1 := by omega
    refine fz_if_eq (tgt := 37) (by decide) hx hb dX10_value_32 (by decide) (fun h9 => absurd h9 (by decide)) (fun c32_ => ?_)
    refine lv_iconst (v := iZ 0) hx hb dX10_value_35 rfl ?_
    exact W.iret (v := iZ (0)) hx hb hr (fun t9 ht9 hW9 => ⟨⟨iZ (0), (μ4, 0), rfl, ⟨rfl, (by
                dsimp only
                first | exact ⟨hfr, by omega⟩ | exact ⟨fr_trans hfr w1, by omega⟩)⟩, by rw [ht9]; exact hP, va_K.moved hW9.alike hK⟩, hS.F ht9⟩) hS.2.2 dX10_value_36
  · have hpp := if_get hip (by omega)
    refine lv_aload_n hx hb dX10_value_14 rfl (lv_at hl 0 rfl) ?_
    refine lv_iload_n hx hb dX10_value_15 rfl (lv_at hl 2 rfl) ?_
    refine va_calli (va_runV (As := [.int (iZ (i))]) (rest := [.ref h0]) ⟨hx, hb, hml, hown, hts⟩ (m_isNode l dC dI cI cZ cII cIII h0 H.size μ1 (i) (by first | assumption | omega | exact ⟨by omega, by omega⟩) (by first | assumption | omega | exact ⟨by omega, by omega⟩)) (cwV 1 hts (gV_G k1619 k1621 ks_yX10_isNode k13 k1622) rfl rfl rfl (by decide +kernel) ⟨Nat.le_of_ble_eq_true rfl, Nat.le_of_ble_eq_true rfl⟩) ⟨fun a U g mk q => by obtain ⟨q0, q1, qP, qK⟩ := q; exact ⟨q0, q1, qP, va_K.moved (u := U) (U := U.calling g mk a) (Vm.Alike.refl U.vm) qK⟩, va_recv hK hP (ci := 10) (q0 := 0) rfl ((fw_get (by decide)).trans (by rw [mE_obj]; rfl)), fun U hU hW => ⟨rfl, by rw [hU], by rw [hU]; exact hP, va_K.moved hW.alike hK⟩⟩ rfl rfl hl.1 rfl (lv_room (Nat.le_of_ble_eq_true rfl)) dX10_value_16 ⟨Nat.le_of_ble_eq_true rfl, Nat.le_of_ble_eq_true rfl⟩) hS (fun q _ h => fA_le hS.1 q h) (fA_le hS.1) (fun r9 u9 t9 H1 locs ht9 hvm9 hw9 hB9 hz9 hk9 hS => ?_)
    obtain ⟨μ6, r7⟩ := u9
    obtain ⟨hP, -⟩ := hB9
    rw [ht9] at hP
    generalize H1 = H at hP hS ⊢
    obtain ⟨e9, hw9⟩ := hw9
    have e9 : r9 = iZ r7 := e9
    subst e9
    simp only at hP hw9
    have hμ6 := hw9; clear hw9
    rw [hμ6.1] at hP; have hμ6 := hμ6.2
    have hjn := hμ6
    have hjn2 := if_01 hμ6
    refine fz_if_ne (tgt := 26) (by constructor <;> omega) hx hb dX10_value_19 (by decide) (fun c19_ => ?_) (fun c19_ => ?_)
    · have hii := if_get hjn (by omega)
      refine lv_iconst (v := iZ 0) hx hb dX10_value_26 rfl ?_
      refine lv_iconst (v := iZ 1) hx hb dX10_value_27 rfl ?_
      refine lv_iconst (v := iZ 0) hx hb dX10_value_28 rfl ?_
      refine va_calli (va_runV (As := [.int (iZ (0)), .int (iZ (1)), .int (iZ (0))]) (rest := []) ⟨hx, hb, hml, hown, hts⟩ (m_bad2 l dC dI cI cZ cII cIII h0 H.size μ1 (0) (1) (0) (by first | assumption | omega | exact ⟨by omega, by omega⟩) (by first | assumption | omega | exact ⟨by omega, by omega⟩) (by first | assumption | omega | exact ⟨by omega, by omega⟩) (by first | assumption | omega | exact ⟨by omega, by omega⟩)) (cwV 3 hts (gV_G k1338 k1340 ks_yX10_bad k13 k1341) rfl rfl rfl (by decide +kernel) ⟨Nat.le_of_ble_eq_true rfl, Nat.le_of_ble_eq_true rfl⟩) ⟨fun a U g mk q => by obtain ⟨q0, q1, qP, qK⟩ := q; exact ⟨q0, q1, qP, va_K.moved (u := U) (U := U.calling g mk a) (Vm.Alike.refl U.vm) qK⟩, va_recv hK hP (ci := 10) (q0 := 0) rfl ((fw_get (by decide)).trans (by rw [mE_obj]; rfl)), fun U hU hW => ⟨rfl, by rw [hU], by rw [hU]; exact hP, va_K.moved hW.alike hK⟩⟩ rfl rfl hl.1 rfl (lv_room (Nat.le_of_ble_eq_true rfl)) dX10_value_29 ⟨Nat.le_of_ble_eq_true rfl, Nat.le_of_ble_eq_true rfl⟩) hS (fun q _ h => fA_le hS.1 q h) (fA_le hS.1) (fun r9 u9 t9 H1 locs ht9 hvm9 hw9 hB9 hz9 hk9 hS => ?_)
      obtain ⟨μ8, r10⟩ := u9
      obtain ⟨hP, -⟩ := hB9
      rw [ht9] at hP
      generalize H1 = H at hP hS ⊢
      obtain ⟨e9, hw9⟩ := hw9
      have e9 : r9 = iZ r10 := e9
      subst e9
      simp only at hP hw9
      have hμ8 := hw9; clear hw9
      have hfr := fr_trans hfr (badP_fr hμ8)
      have hrb := badP_r hμ8
      obtain rfl : r10 = 0 := by omega
      refine fz_if_eq (tgt := 37) (by decide) hx hb dX10_value_32 (by decide) (fun c32_ => ?_) (fun h9 => absurd h9 (by decide))
      have hQ2 := RQ_fr hQ hfr
      obtain ⟨k10, ⟨kT, kTb, kTw⟩, kS3, kPg, kw, kwB, kwT⟩ := hQ2
      have e10k := hfr 0 10 (PS_n (by omega))
      have e9k := hfr 0 9 (PS_n (by omega))
      have e71k := hfr 719 0 (PS_n (by omega))
      have ktk := TR_tok kwT kwB.1 kwB.2.1
      have kt1 := ktk.1
      have kt2 := ktk.2.1
      obtain ⟨p1, p2, p3, pw, pw1, pw2, pw3⟩ := kPg pp.toNat (by omega)
      have kT1 := kTb.1
      have kT2 := kTb.2.1
      obtain ⟨cc1, cc2, cc3, cc4⟩ := ktk.2.2 i.toNat (by omega)
      refine lv_aload_n hx hb dX10_value_37 rfl (lv_at hl 0 rfl) ?_
      refine fz_get (D := (dC, dI)) (ci := 10) (v := .ref (h0 + 506)) (C := RX10) (T := TX10) (N := 53) hx hb hts inG10 hown hK hP (k := 0) (by decide) (F := mF h0) mE_obj rfl 18 (by decide) (hts _ k1184) (fun _ h9 => h9) rfl dX10_value_38 ?_
      refine lv_iconst (v := iZ 0) hx hb dX10_value_41 rfl ?_
      refine fz_ald (k := 506) (n := 70) (k2 := (507 + 0)) hx hb hK hP 2 rfl (by decide) mE_sort rfl ⟨by omega, by omega⟩ (by decide) (if_pos (by omega)) dX10_value_42 ?_
      refine lv_iload_n hx hb dX10_value_43 rfl (lv_at hl 2 rfl) ?_
      refine fz_ld (k := (507 + 0)) (n := 900) hx hb hK hP 0 (by omega) (mE_sortR (by omega)) rfl ⟨by omega, by omega⟩ (by decide) dX10_value_44 ?_
      refine lv_iconst (v := iZ 2) hx hb dX10_value_45 rfl ?_
      refine fz_icmp_ne (tgt := 57) (by constructor <;> omega) (by decide) hx hb dX10_value_46 (by decide) (fun c46_ => ?_) (fun c46_ => ?_)
      · refine lv_iconst (v := iZ (-1)) hx hb dX10_value_57 rfl ?_
        exact W.iret (v := iZ ((-1))) hx hb hr (fun t9 ht9 hW9 => ⟨⟨iZ ((-1)), (μ8, (-1)), rfl, ⟨rfl, (by
                        dsimp only
                        first | exact ⟨hfr, by omega⟩ | exact ⟨fr_trans hfr w1, by omega⟩)⟩, by rw [ht9]; exact hP, va_K.moved hW9.alike hK⟩, hS.F ht9⟩) hS.2.2 dX10_value_58
      · refine lv_aload_n hx hb dX10_value_49 rfl (lv_at hl 0 rfl) ?_
        refine lv_iload_n hx hb dX10_value_50 rfl (lv_at hl 1 rfl) ?_
        refine va_calli (va_runV (As := [.int (iZ (pp))]) (rest := []) ⟨hx, hb, hml, hown, hts⟩ (m_walksPage l dC dI cI cZ cII cIII h0 H.size μ8 (pp) (by exact RQ_fr hQ hfr) (by omega)) (cwV 1 hts (gV_G k1663 k1665 ks_yX10_walksPage k13 k1666) rfl rfl rfl (by decide +kernel) ⟨Nat.le_of_ble_eq_true rfl, Nat.le_of_ble_eq_true rfl⟩) ⟨fun a U g mk q => by obtain ⟨q0, q1, qP, qK⟩ := q; exact ⟨q0, q1, qP, va_K.moved (u := U) (U := U.calling g mk a) (Vm.Alike.refl U.vm) qK⟩, va_recv hK hP (ci := 10) (q0 := 0) rfl ((fw_get (by decide)).trans (by rw [mE_obj]; rfl)), fun U hU hW => ⟨rfl, by rw [hU], by rw [hU]; exact hP, va_K.moved hW.alike hK⟩⟩ rfl rfl hl.1 rfl (lv_room (Nat.le_of_ble_eq_true rfl)) dX10_value_51 ⟨Nat.le_of_ble_eq_true rfl, Nat.le_of_ble_eq_true rfl⟩) hS (fun q _ h => fA_le hS.1 q h) (fA_le hS.1) (fun r9 u9 t9 H1 locs ht9 hvm9 hw9 hB9 hz9 hk9 hS => ?_)
        obtain ⟨μ11, r12⟩ := u9
        obtain ⟨hP, -⟩ := hB9
        rw [ht9] at hP
        generalize H1 = H at hP hS ⊢
        obtain ⟨e9, hw9⟩ := hw9
        have e9 : r9 = iZ r12 := e9
        subst e9
        simp only at hP hw9
        have hμ11 := hw9; clear hw9
        obtain ⟨w0, w2, w3⟩ := hμ11
        have w1 := fr_mono w0 (fun _ _ h => WKP_PS h)
        refine fz_if_ne (tgt := 59) (by constructor <;> omega) hx hb dX10_value_54 (by decide) (fun c54_ => ?_) (fun c54_ => ?_)
        · have w15 : μ11 15 pp.toNat = _ := w1 15 pp.toNat (PS_n (by omega))
          have w4 : ∀ k : Nat, (k : Int) < μ11 15 pp.toNat → 0 ≤ μ11 6321 k ∧ μ11 6321 k < 900 := by
            intro k hk
            rcases w3 with h | ⟨_, h, _⟩
            · omega
            · exact h k (by omega)
          refine lv_iconst (v := iZ 0) hx hb dX10_value_59 rfl ?_
          refine lv_istore (lv' := [(4, .int (iZ (0))), (0, .ref h0), (1, .int (iZ (pp))), (2, .int (iZ (i))), (3, .int (iZ (j)))]) hx hb dX10_value_60 hl (by decide) rfl (fun ls hl => ?_)
          refine lv_iconst (v := iZ 0) hx hb dX10_value_62 rfl ?_
          refine lv_istore (lv' := [(5, .int (iZ (0))), (4, .int (iZ (0))), (0, .ref h0), (1, .int (iZ (pp))), (2, .int (iZ (i))), (3, .int (iZ (j)))]) hx hb dX10_value_63 hl (by decide) rfl (fun ls hl => ?_)
          refine LX10_value_65 hx hb hml hown hts hK (Nat.le_of_ble_eq_true rfl) (Nat.le_of_ble_eq_true rfl) (Nat.le_of_ble_eq_true rfl) (Nat.le_of_ble_eq_true rfl) (μ11) (pp) (i) (j) (by omega) (by omega) (by exact w4) (by exact hi9) (by exact hj9) ?_ ?_ _ (0) (0) μ11 H locs ls (by rfl) (by omega) (by omega) (Nat.lt_succ_self _) hP hS (lv_sub hl [0, 1, 5, 4, 3, 2] rfl)
          · intro n_13 k_13 μ13_ H locs ls q2_13 q3_13 hP hS hl
            have hl : lv_has ls 6 [(5, .int (iZ (k_13))), (1, .int (iZ (pp))), (0, .ref h0)] := hl
            have hPn := hP
            obtain rfl := q2_13
            have hP := hPn
            have q3 := q3_13
            refine lv_aload_n hx hb dX10_value_96 rfl (lv_at hl 2 rfl) ?_
            refine fz_get (D := (dC, dI)) (ci := 10) (v := .ref (h0 + 6)) (C := RX10) (T := TX10) (N := 53) hx hb hts inG10 hown hK hP (k := 0) (by decide) (F := mF h0) mE_obj rfl 14 (by decide) (hts _ k1180) (fun _ h9 => h9) rfl dX10_value_97 ?_
            refine lv_iload_n hx hb dX10_value_100 rfl (lv_at hl 1 rfl) ?_
            refine fz_ald (k := 6) (n := 8) (k2 := (7 + (pp).toNat)) hx hb hK hP 2 rfl (by decide) mE_page rfl ⟨by omega, by omega⟩ (by decide) (if_pos (by omega)) dX10_value_101 ?_
            refine lv_iload hx hb dX10_value_102 (lv_at hl 0 rfl) ?_
            refine fz_ld (k := (7 + (pp).toNat)) (n := 60) hx hb hK hP 0 (by omega) (mE_pageR (by omega)) rfl ⟨by omega, by omega⟩ (by decide) dX10_value_104 ?_
            exact W.iret (v := iZ (μ13_ (7 + (pp).toNat) (k_13).toNat)) hx hb hr (fun t9 ht9 hW9 => ⟨⟨iZ (μ13_ (7 + (pp).toNat) (k_13).toNat), (μ13_, μ13_ (7 + (pp).toNat) (k_13).toNat), rfl, ⟨rfl, (by
                                dsimp only
                                exact ⟨fr_trans hfr w1, by omega⟩)⟩, by rw [ht9]; exact hP, va_K.moved hW9.alike hK⟩, hS.F ht9⟩) hS.2.2 dX10_value_105
          · intro n_14 k_14 μ14_ H locs ls q1_14 hP hS hl
            have hl : lv_has ls 6 [] := hl
            refine lv_iconst (v := iZ (-1)) hx hb dX10_value_115 rfl ?_
            exact W.iret (v := iZ ((-1))) hx hb hr (fun t9 ht9 hW9 => ⟨⟨iZ ((-1)), (μ14_, (-1)), rfl, ⟨rfl, (by
                                dsimp only
                                rw [q1_14]
                                exact ⟨fr_trans hfr w1, by omega⟩)⟩, by rw [ht9]; exact hP, va_K.moved hW9.alike hK⟩, hS.F ht9⟩) hS.2.2 dX10_value_116
        · refine lv_iconst (v := iZ (-1)) hx hb dX10_value_57 rfl ?_
          exact W.iret (v := iZ ((-1))) hx hb hr (fun t9 ht9 hW9 => ⟨⟨iZ ((-1)), (μ11, (-1)), rfl, ⟨rfl, (by
                            dsimp only
                            first | exact ⟨hfr, by omega⟩ | exact ⟨fr_trans hfr w1, by omega⟩)⟩, by rw [ht9]; exact hP, va_K.moved hW9.alike hK⟩, hS.F ht9⟩) hS.2.2 dX10_value_58
    · refine lv_iconst (v := iZ 1) hx hb dX10_value_22 rfl ?_
      refine lv_goto (tgt := 27) hx hb dX10_value_23 (by decide) ?_
      refine lv_iconst (v := iZ 1) hx hb dX10_value_27 rfl ?_
      refine lv_iconst (v := iZ 0) hx hb dX10_value_28 rfl ?_
      refine va_calli (va_runV (As := [.int (iZ (1)), .int (iZ (1)), .int (iZ (0))]) (rest := []) ⟨hx, hb, hml, hown, hts⟩ (m_bad2 l dC dI cI cZ cII cIII h0 H.size μ1 (1) (1) (0) (by first | assumption | omega | exact ⟨by omega, by omega⟩) (by first | assumption | omega | exact ⟨by omega, by omega⟩) (by first | assumption | omega | exact ⟨by omega, by omega⟩) (by first | assumption | omega | exact ⟨by omega, by omega⟩)) (cwV 3 hts (gV_G k1338 k1340 ks_yX10_bad k13 k1341) rfl rfl rfl (by decide +kernel) ⟨Nat.le_of_ble_eq_true rfl, Nat.le_of_ble_eq_true rfl⟩) ⟨fun a U g mk q => by obtain ⟨q0, q1, qP, qK⟩ := q; exact ⟨q0, q1, qP, va_K.moved (u := U) (U := U.calling g mk a) (Vm.Alike.refl U.vm) qK⟩, va_recv hK hP (ci := 10) (q0 := 0) rfl ((fw_get (by decide)).trans (by rw [mE_obj]; rfl)), fun U hU hW => ⟨rfl, by rw [hU], by rw [hU]; exact hP, va_K.moved hW.alike hK⟩⟩ rfl rfl hl.1 rfl (lv_room (Nat.le_of_ble_eq_true rfl)) dX10_value_29 ⟨Nat.le_of_ble_eq_true rfl, Nat.le_of_ble_eq_true rfl⟩) hS (fun q _ h => fA_le hS.1 q h) (fA_le hS.1) (fun r9 u9 t9 H1 locs ht9 hvm9 hw9 hB9 hz9 hk9 hS => ?_)
      obtain ⟨μ15, r16⟩ := u9
      obtain ⟨hP, -⟩ := hB9
      rw [ht9] at hP
      generalize H1 = H at hP hS ⊢
      obtain ⟨e9, hw9⟩ := hw9
      have e9 : r9 = iZ r16 := e9
      subst e9
      simp only at hP hw9
      have hμ15 := hw9; clear hw9
      have hfr := fr_trans hfr (badP_fr hμ15)
      have hrb := badP_r hμ15
      obtain rfl : r16 = 1 := by omega
      refine fz_if_eq (tgt := 37) (by decide) hx hb dX10_value_32 (by decide) (fun h9 => absurd h9 (by decide)) (fun c32_ => ?_)
      refine lv_iconst (v := iZ 0) hx hb dX10_value_35 rfl ?_
      exact W.iret (v := iZ (0)) hx hb hr (fun t9 ht9 hW9 => ⟨⟨iZ (0), (μ15, 0), rfl, ⟨rfl, (by
                    dsimp only
                    first | exact ⟨hfr, by omega⟩ | exact ⟨fr_trans hfr w1, by omega⟩)⟩, by rw [ht9]; exact hP, va_K.moved hW9.alike hK⟩, hS.F ht9⟩) hS.2.2 dX10_value_36
set_option maxHeartbeats 4000000 in
set_option maxRecDepth 100000 in
theorem m_taker (l : Launch) (dC : Nat → ClassId) (dI : Nat → Nat → Nat) (cI cZ cII cIII : ClassId) (h0 sz : Nat) (μ : va_M) (pp : Int) (k : Int) (hQ : RQ μ) (hp : inR pp) (hkR : inR k) : Met l yX10_taker (Cond.code yX10_taker cX10_taker 4 (some .int) :: wsG) ({ frames := 9, cells := 0, slots := 0, locals := 215 } : Room) (va_Pc [.ref h0, .int (iZ (pp)), .int (iZ (k))] (fun U => U.heap.size = sz ∧ va_P (dC, dI) vwCl (fw (mE cI cZ cII cIII h0) h0 6325 μ) U.heap ∧ va_K (dC, dI) vwCl (mT cI cZ cII cIII) U)) (va_Qi (fun (r9 : Int32) (u : va_M × Int) => r9 = iZ u.2 ∧ (fun (u : va_M) (r : Int) => fr PS μ u ∧ (u 0 0 = 0 ∨ u 0 0 = 1 ∨ u 0 0 = 2)) u.1 u.2) (fun u t => va_P (dC, dI) vwCl (fw (mE cI cZ cII cIII h0) h0 6325 u.1) t.heap ∧ va_K (dC, dI) vwCl (mT cI cZ cII cIII) t) (fA h0 6325 sz)) 0 0 (fA h0 6325 sz) := by
  refine Met.ofW (cc := cX10_taker) (maxL := 4) (ret := (some .int)) (by decide) rfl ?_
  intro p e s m args below meth c s₁ B hml hv
  obtain ⟨rfl, hsz, hP, hK⟩ := hv
  have hx := B.exec
  have hb := B.bytes
  have hr := B.returns
  have hts : ∀ w ∈ wsG, w.before _ s = true := hG_of (atoms_spec (ws := (Cond.code yX10_taker cX10_taker 4 (some .int) :: wsG)) B.pre)
  have hown : s.vm.findClass RX10 = some m.cls := findClass_of_methodNamed B.named
  have hlocks := B.notSynchronized
  subst hsz
  have hS : va_S (fA h0 6325 s.heap.size) s.heap s.heap [] := va_S.rf
  have hl := lv_entry ([.ref h0, .int (iZ (pp)), .int (iZ (k))]) (n := 4) (Nat.le_of_ble_eq_true rfl)
  rw [lg_entry_eq]
  generalize (lg_sl ([.ref h0, .int (iZ (pp)), .int (iZ (k))]) ++ List.replicate (4 - (lg_sl ([.ref h0, .int (iZ (pp)), .int (iZ (k))])).length) Slot.unset).toArray = ls at hl ⊢
  have hl : lv_has ls 4 [(0, .ref h0), (1, .int (iZ (pp))), (2, .int (iZ (k)))] := hl
  refine lv_aload_n hx hb dX10_taker_0 rfl (lv_at hl 0 rfl) ?_
  refine lv_iconst (v := iZ 0) hx hb dX10_taker_1 rfl ?_
  refine fz_put (D := (dC, dI)) (ci := 10) (ty := .int) (z := 0) (C := RX10) (T := TX10) (N := 53) hx hb hts inG10 tyX10 tyX10_ok nmX10 hown hK hP fA_in hS (k := 0) (by decide) (F := mF h0) mE_obj rfl 0 (by decide) (hts _ k1166) (fun _ h9 => h9) rfl (by decide +kernel) rfl rfl (fun _ => Nat.le_of_ble_eq_true rfl) (fun _ _ => rfl) dX10_taker_2 (fun H locs hP hS => ?_)
  obtain ⟨μ1, eμ1⟩ : ∃ x : va_M, x = uz μ 0 0 (0) := ⟨_, rfl⟩
  rw [← eμ1] at hP
  have hfr : fr PS μ μ1 := by rw [eμ1]; exact fr_uz fr_rfl (by unfold PS; omega)
  have ht0 : μ1 0 0 = 0 := by rw [eμ1, uz_s]
  have e10 := hfr 0 10 (PS_n (by omega))
  have e9 := hfr 0 9 (PS_n (by omega))
  have e71 := hfr 719 0 (PS_n (by omega))
  have hQ1 := RQ_fr hQ hfr
  have hQc := hQ
  obtain ⟨f10, ⟨fT, fTb, fTw⟩, fS3, fPg, fw9, fwB, fwT⟩ := hQc
  obtain ⟨g10, ⟨gT, gTb, gTw⟩, gS3, gPg, gw, gwB, gwT⟩ := hQ1
  have gtk := TR_tok gwT gwB.1 gwB.2.1
  have gt1 := gtk.1
  have gt2 := gtk.2.1
  refine lv_aload_n hx hb dX10_taker_5 rfl (lv_at hl 0 rfl) ?_
  refine lv_iload_n hx hb dX10_taker_6 rfl (lv_at hl 1 rfl) ?_
  refine va_calli (va_runV (As := [.int (iZ (pp))]) (rest := []) ⟨hx, hb, hml, hown, hts⟩ (m_isPage l dC dI cI cZ cII cIII h0 H.size μ1 (pp) (by first | assumption | omega | exact ⟨by omega, by omega⟩) (by first | assumption | omega | exact ⟨by omega, by omega⟩)) (cwV 1 hts (gV_G k1584 k1586 ks_yX10_isPage k13 k1587) rfl rfl rfl (by decide +kernel) ⟨Nat.le_of_ble_eq_true rfl, Nat.le_of_ble_eq_true rfl⟩) ⟨fun a U g mk q => by obtain ⟨q0, q1, qP, qK⟩ := q; exact ⟨q0, q1, qP, va_K.moved (u := U) (U := U.calling g mk a) (Vm.Alike.refl U.vm) qK⟩, va_recv hK hP (ci := 10) (q0 := 0) rfl ((fw_get (by decide)).trans (by rw [mE_obj]; rfl)), fun U hU hW => ⟨rfl, by rw [hU], by rw [hU]; exact hP, va_K.moved hW.alike hK⟩⟩ rfl rfl hl.1 rfl (lv_room (Nat.le_of_ble_eq_true rfl)) dX10_taker_7 ⟨Nat.le_of_ble_eq_true rfl, Nat.le_of_ble_eq_true rfl⟩) hS (fun q _ h => fA_le hS.1 q h) (fA_le hS.1) (fun r9 u9 t9 H1 locs ht9 hvm9 hw9 hB9 hz9 hk9 hS => ?_)
  obtain ⟨μ2, r3⟩ := u9
  obtain ⟨hP, -⟩ := hB9
  rw [ht9] at hP
  generalize H1 = H at hP hS ⊢
  obtain ⟨e9, hw9⟩ := hw9
  have e9 : r9 = iZ r3 := e9
  subst e9
  simp only at hP hw9
  have hμ2 := hw9; clear hw9
  rw [hμ2.1] at hP; have hμ2 := hμ2.2
  have hip := hμ2
  have hip2 := if_01 hμ2
  refine fz_if_eq (tgt := 33) (by constructor <;> omega) hx hb dX10_taker_10 (by decide) (fun c10_ => ?_) (fun c10_ => ?_)
  · refine lv_iconst (v := iZ 0) hx hb dX10_taker_33 rfl ?_
    refine lv_istore_n (lv' := [(3, .int (iZ (0))), (0, .ref h0), (1, .int (iZ (pp))), (2, .int (iZ (k)))]) hx hb dX10_taker_34 rfl hl (by decide) rfl (fun ls hl => ?_)
    refine lv_aload_n hx hb dX10_taker_35 rfl (lv_at hl 1 rfl) ?_
    refine lv_iload_n hx hb dX10_taker_36 rfl (lv_at hl 0 rfl) ?_
    refine fz_if_ne (tgt := 44) (by decide) hx hb dX10_taker_37 (by decide) (fun h9 => absurd h9 (by decide)) (fun c37_ => ?_)
    refine lv_iconst (v := iZ 1) hx hb dX10_taker_40 rfl ?_
    refine lv_goto (tgt := 45) hx hb dX10_taker_41 (by decide) ?_
    refine lv_iconst (v := iZ 1) hx hb dX10_taker_45 rfl ?_
    refine lv_iconst (v := iZ 0) hx hb dX10_taker_46 rfl ?_
    refine va_calli (va_runV (As := [.int (iZ (1)), .int (iZ (1)), .int (iZ (0))]) (rest := []) ⟨hx, hb, hml, hown, hts⟩ (m_bad2 l dC dI cI cZ cII cIII h0 H.size μ1 (1) (1) (0) (by first | assumption | omega | exact ⟨by omega, by omega⟩) (by first | assumption | omega | exact ⟨by omega, by omega⟩) (by first | assumption | omega | exact ⟨by omega, by omega⟩) (by first | assumption | omega | exact ⟨by omega, by omega⟩)) (cwV 3 hts (gV_G k1338 k1340 ks_yX10_bad k13 k1341) rfl rfl rfl (by decide +kernel) ⟨Nat.le_of_ble_eq_true rfl, Nat.le_of_ble_eq_true rfl⟩) ⟨fun a U g mk q => by obtain ⟨q0, q1, qP, qK⟩ := q; exact ⟨q0, q1, qP, va_K.moved (u := U) (U := U.calling g mk a) (Vm.Alike.refl U.vm) qK⟩, va_recv hK hP (ci := 10) (q0 := 0) rfl ((fw_get (by decide)).trans (by rw [mE_obj]; rfl)), fun U hU hW => ⟨rfl, by rw [hU], by rw [hU]; exact hP, va_K.moved hW.alike hK⟩⟩ rfl rfl hl.1 rfl (lv_room (Nat.le_of_ble_eq_true rfl)) dX10_taker_47 ⟨Nat.le_of_ble_eq_true rfl, Nat.le_of_ble_eq_true rfl⟩) hS (fun q _ h => fA_le hS.1 q h) (fA_le hS.1) (fun r9 u9 t9 H1 locs ht9 hvm9 hw9 hB9 hz9 hk9 hS => ?_)
    obtain ⟨μ4, r5⟩ := u9
    obtain ⟨hP, -⟩ := hB9
    rw [ht9] at hP
    generalize H1 = H at hP hS ⊢
    obtain ⟨e9, hw9⟩ := hw9
    have e9 : r9 = iZ r5 := e9
    subst e9
    simp only at hP hw9
    have hμ4 := hw9; clear hw9
    have hfr := fr_trans hfr (badP_fr hμ4)
    have hrb := badP_r hμ4
    obtain rfl : r5 = 1 := by omega
    refine fz_if_eq (tgt := 55) (by decide) hx hb dX10_taker_50 (by decide) (fun h9 => absurd h9 (by decide)) (fun c50_ => ?_)
    refine lv_iconst (v := iZ 0) hx hb dX10_taker_53 rfl ?_
    exact W.iret (v := iZ (0)) hx hb hr (fun t9 ht9 hW9 => ⟨⟨iZ (0), (μ4, 0), rfl, ⟨rfl, (by
                dsimp only
                first | exact ⟨hfr, by omega⟩ | exact ⟨fr_trans hfr w1, by omega⟩)⟩, by rw [ht9]; exact hP, va_K.moved hW9.alike hK⟩, hS.F ht9⟩) hS.2.2 dX10_taker_54
  · have hpp := if_get hip (by omega)
    obtain ⟨q1, q2, q3, qw, qw1, qw2, qw3⟩ := fPg pp.toNat (by omega)
    refine lv_iload_n hx hb dX10_taker_13 rfl (lv_at hl 2 rfl) ?_
    refine lv_iconst (v := iZ 0) hx hb dX10_taker_14 rfl ?_
    refine lv_aload_n hx hb dX10_taker_15 rfl (lv_at hl 0 rfl) ?_
    refine fz_get (D := (dC, dI)) (ci := 10) (v := .ref (h0 + 15)) (C := RX10) (T := TX10) (N := 53) hx hb hts inG10 hown hK hP (k := 0) (by decide) (F := mF h0) mE_obj rfl 15 (by decide) (hts _ k1181) (fun _ h9 => h9) rfl dX10_taker_16 ?_
    refine lv_iload_n hx hb dX10_taker_19 rfl (lv_at hl 1 rfl) ?_
    refine fz_ld (k := 15) (n := 8) hx hb hK hP 0 (by decide) mE_pageLong rfl ⟨by omega, by omega⟩ (by decide) dX10_taker_20 ?_
    rw [show μ1 15 (pp).toNat = μ 15 (pp).toNat from by rw [eμ1, uz_n (by omega)]]
    refine lv_iconst (v := iZ 1) hx hb dX10_taker_21 rfl ?_
    refine lv_isub hx hb dX10_taker_22 ?_
    refine lv_topi (fun x9 ex9 => ?_)
    obtain rfl : x9 = iZ ((μ 15 (pp).toNat) - 1) := ex9.trans (iZ_sub _ _)
    refine va_calli (va_runS (As := [.int (iZ (k)), .int (iZ (0)), .int (iZ ((μ 15 (pp).toNat) - 1))]) (rest := []) ⟨hx, hb, hml, hown, hts⟩ (m_in l dC dI cI cZ cII cIII h0 H.size μ1 (k) (0) ((μ 15 (pp).toNat) - 1) (by first | assumption | omega | exact ⟨by omega, by omega⟩) (by first | assumption | omega | exact ⟨by omega, by omega⟩) (by first | assumption | omega | exact ⟨by omega, by omega⟩)) (cwS 3 hts (gS_G k1335 k1336 k13 k1337) rfl rfl rfl (by decide +kernel) ⟨Nat.le_of_ble_eq_true rfl, Nat.le_of_ble_eq_true rfl⟩) ⟨fun a U g mk q => by obtain ⟨q0, q1, qP, qK⟩ := q; exact ⟨q0, q1, qP, va_K.moved (u := U) (U := U.calling g mk a) (Vm.Alike.refl U.vm) qK⟩, fun U hU hW => ⟨rfl, by rw [hU], by rw [hU]; exact hP, va_K.moved hW.alike hK⟩⟩ rfl rfl hl.1 rfl (lv_room (Nat.le_of_ble_eq_true rfl)) dX10_taker_23 ⟨Nat.le_of_ble_eq_true rfl, Nat.le_of_ble_eq_true rfl⟩) hS (fun q _ h => fA_le hS.1 q h) (fA_le hS.1) (fun r9 u9 t9 H1 locs ht9 hvm9 hw9 hB9 hz9 hk9 hS => ?_)
    obtain ⟨μ6, r7⟩ := u9
    obtain ⟨hP, -⟩ := hB9
    rw [ht9] at hP
    generalize H1 = H at hP hS ⊢
    obtain ⟨e9, hw9⟩ := hw9
    have e9 : r9 = iZ r7 := e9
    subst e9
    simp only at hP hw9
    have hμ6 := hw9; clear hw9
    rw [hμ6.1] at hP; have hμ6 := hμ6.2
    have hin := hμ6
    have hin2 := if_01 hμ6
    refine fz_if_eq (tgt := 33) (by constructor <;> omega) hx hb dX10_taker_26 (by decide) (fun c26_ => ?_) (fun c26_ => ?_)
    · refine lv_iconst (v := iZ 0) hx hb dX10_taker_33 rfl ?_
      refine lv_istore_n (lv' := [(3, .int (iZ (0))), (0, .ref h0), (1, .int (iZ (pp))), (2, .int (iZ (k)))]) hx hb dX10_taker_34 rfl hl (by decide) rfl (fun ls hl => ?_)
      refine lv_aload_n hx hb dX10_taker_35 rfl (lv_at hl 1 rfl) ?_
      refine lv_iload_n hx hb dX10_taker_36 rfl (lv_at hl 0 rfl) ?_
      refine fz_if_ne (tgt := 44) (by decide) hx hb dX10_taker_37 (by decide) (fun h9 => absurd h9 (by decide)) (fun c37_ => ?_)
      refine lv_iconst (v := iZ 1) hx hb dX10_taker_40 rfl ?_
      refine lv_goto (tgt := 45) hx hb dX10_taker_41 (by decide) ?_
      refine lv_iconst (v := iZ 1) hx hb dX10_taker_45 rfl ?_
      refine lv_iconst (v := iZ 0) hx hb dX10_taker_46 rfl ?_
      refine va_calli (va_runV (As := [.int (iZ (1)), .int (iZ (1)), .int (iZ (0))]) (rest := []) ⟨hx, hb, hml, hown, hts⟩ (m_bad2 l dC dI cI cZ cII cIII h0 H.size μ1 (1) (1) (0) (by first | assumption | omega | exact ⟨by omega, by omega⟩) (by first | assumption | omega | exact ⟨by omega, by omega⟩) (by first | assumption | omega | exact ⟨by omega, by omega⟩) (by first | assumption | omega | exact ⟨by omega, by omega⟩)) (cwV 3 hts (gV_G k1338 k1340 ks_yX10_bad k13 k1341) rfl rfl rfl (by decide +kernel) ⟨Nat.le_of_ble_eq_true rfl, Nat.le_of_ble_eq_true rfl⟩) ⟨fun a U g mk q => by obtain ⟨q0, q1, qP, qK⟩ := q; exact ⟨q0, q1, qP, va_K.moved (u := U) (U := U.calling g mk a) (Vm.Alike.refl U.vm) qK⟩, va_recv hK hP (ci := 10) (q0 := 0) rfl ((fw_get (by decide)).trans (by rw [mE_obj]; rfl)), fun U hU hW => ⟨rfl, by rw [hU], by rw [hU]; exact hP, va_K.moved hW.alike hK⟩⟩ rfl rfl hl.1 rfl (lv_room (Nat.le_of_ble_eq_true rfl)) dX10_taker_47 ⟨Nat.le_of_ble_eq_true rfl, Nat.le_of_ble_eq_true rfl⟩) hS (fun q _ h => fA_le hS.1 q h) (fA_le hS.1) (fun r9 u9 t9 H1 locs ht9 hvm9 hw9 hB9 hz9 hk9 hS => ?_)
      obtain ⟨μ8, r10⟩ := u9
      obtain ⟨hP, -⟩ := hB9
      rw [ht9] at hP
      generalize H1 = H at hP hS ⊢
      obtain ⟨e9, hw9⟩ := hw9
      have e9 : r9 = iZ r10 := e9
      subst e9
      simp only at hP hw9
      have hμ8 := hw9; clear hw9
      have hfr := fr_trans hfr (badP_fr hμ8)
      have hrb := badP_r hμ8
      obtain rfl : r10 = 1 := by omega
      refine fz_if_eq (tgt := 55) (by decide) hx hb dX10_taker_50 (by decide) (fun h9 => absurd h9 (by decide)) (fun c50_ => ?_)
      refine lv_iconst (v := iZ 0) hx hb dX10_taker_53 rfl ?_
      exact W.iret (v := iZ (0)) hx hb hr (fun t9 ht9 hW9 => ⟨⟨iZ (0), (μ8, 0), rfl, ⟨rfl, (by
                    dsimp only
                    first | exact ⟨hfr, by omega⟩ | exact ⟨fr_trans hfr w1, by omega⟩)⟩, by rw [ht9]; exact hP, va_K.moved hW9.alike hK⟩, hS.F ht9⟩) hS.2.2 dX10_taker_54
    · have hkk := if_get hin (by omega)
      refine lv_iconst (v := iZ 1) hx hb dX10_taker_29 rfl ?_
      refine lv_goto (tgt := 34) hx hb dX10_taker_30 (by decide) ?_
      refine lv_istore_n (lv' := [(3, .int (iZ (1))), (0, .ref h0), (1, .int (iZ (pp))), (2, .int (iZ (k)))]) hx hb dX10_taker_34 rfl hl (by decide) rfl (fun ls hl => ?_)
      refine lv_aload_n hx hb dX10_taker_35 rfl (lv_at hl 1 rfl) ?_
      refine lv_iload_n hx hb dX10_taker_36 rfl (lv_at hl 0 rfl) ?_
      refine fz_if_ne (tgt := 44) (by decide) hx hb dX10_taker_37 (by decide) (fun c37_ => ?_) (fun h9 => absurd h9 (by decide))
      refine lv_iconst (v := iZ 0) hx hb dX10_taker_44 rfl ?_
      refine lv_iconst (v := iZ 1) hx hb dX10_taker_45 rfl ?_
      refine lv_iconst (v := iZ 0) hx hb dX10_taker_46 rfl ?_
      refine va_calli (va_runV (As := [.int (iZ (0)), .int (iZ (1)), .int (iZ (0))]) (rest := []) ⟨hx, hb, hml, hown, hts⟩ (m_bad2 l dC dI cI cZ cII cIII h0 H.size μ1 (0) (1) (0) (by first | assumption | omega | exact ⟨by omega, by omega⟩) (by first | assumption | omega | exact ⟨by omega, by omega⟩) (by first | assumption | omega | exact ⟨by omega, by omega⟩) (by first | assumption | omega | exact ⟨by omega, by omega⟩)) (cwV 3 hts (gV_G k1338 k1340 ks_yX10_bad k13 k1341) rfl rfl rfl (by decide +kernel) ⟨Nat.le_of_ble_eq_true rfl, Nat.le_of_ble_eq_true rfl⟩) ⟨fun a U g mk q => by obtain ⟨q0, q1, qP, qK⟩ := q; exact ⟨q0, q1, qP, va_K.moved (u := U) (U := U.calling g mk a) (Vm.Alike.refl U.vm) qK⟩, va_recv hK hP (ci := 10) (q0 := 0) rfl ((fw_get (by decide)).trans (by rw [mE_obj]; rfl)), fun U hU hW => ⟨rfl, by rw [hU], by rw [hU]; exact hP, va_K.moved hW.alike hK⟩⟩ rfl rfl hl.1 rfl (lv_room (Nat.le_of_ble_eq_true rfl)) dX10_taker_47 ⟨Nat.le_of_ble_eq_true rfl, Nat.le_of_ble_eq_true rfl⟩) hS (fun q _ h => fA_le hS.1 q h) (fA_le hS.1) (fun r9 u9 t9 H1 locs ht9 hvm9 hw9 hB9 hz9 hk9 hS => ?_)
      obtain ⟨μ11, r12⟩ := u9
      obtain ⟨hP, -⟩ := hB9
      rw [ht9] at hP
      generalize H1 = H at hP hS ⊢
      obtain ⟨e9, hw9⟩ := hw9
      have e9 : r9 = iZ r12 := e9
      subst e9
      simp only at hP hw9
      have hμ11 := hw9; clear hw9
      have hfr := fr_trans hfr (badP_fr hμ11)
      have hrb := badP_r hμ11
      obtain rfl : r12 = 0 := by omega
      refine fz_if_eq (tgt := 55) (by decide) hx hb dX10_taker_50 (by decide) (fun c50_ => ?_) (fun h9 => absurd h9 (by decide))
      have hQ2 := RQ_fr hQ hfr
      obtain ⟨k10, ⟨kT, kTb, kTw⟩, kS3, kPg, kw, kwB, kwT⟩ := hQ2
      have e10k := hfr 0 10 (PS_n (by omega))
      have e9k := hfr 0 9 (PS_n (by omega))
      have e71k := hfr 719 0 (PS_n (by omega))
      have ktk := TR_tok kwT kwB.1 kwB.2.1
      have kt1 := ktk.1
      have kt2 := ktk.2.1
      obtain ⟨p1, p2, p3, pw, pw1, pw2, pw3⟩ := kPg pp.toNat (by omega)
      have kT1 := kTb.1
      have kT2 := kTb.2.1
      have e15k := hfr 15 pp.toNat (PS_n (by omega))
      refine lv_aload_n hx hb dX10_taker_55 rfl (lv_at hl 1 rfl) ?_
      refine lv_iload_n hx hb dX10_taker_56 rfl (lv_at hl 2 rfl) ?_
      refine va_calli (va_runV (As := [.int (iZ (pp))]) (rest := []) ⟨hx, hb, hml, hown, hts⟩ (m_walksPage l dC dI cI cZ cII cIII h0 H.size μ11 (pp) (by exact RQ_fr hQ hfr) (by omega)) (cwV 1 hts (gV_G k1663 k1665 ks_yX10_walksPage k13 k1666) rfl rfl rfl (by decide +kernel) ⟨Nat.le_of_ble_eq_true rfl, Nat.le_of_ble_eq_true rfl⟩) ⟨fun a U g mk q => by obtain ⟨q0, q1, qP, qK⟩ := q; exact ⟨q0, q1, qP, va_K.moved (u := U) (U := U.calling g mk a) (Vm.Alike.refl U.vm) qK⟩, va_recv hK hP (ci := 10) (q0 := 0) rfl ((fw_get (by decide)).trans (by rw [mE_obj]; rfl)), fun U hU hW => ⟨rfl, by rw [hU], by rw [hU]; exact hP, va_K.moved hW.alike hK⟩⟩ rfl rfl hl.1 rfl (lv_room (Nat.le_of_ble_eq_true rfl)) dX10_taker_57 ⟨Nat.le_of_ble_eq_true rfl, Nat.le_of_ble_eq_true rfl⟩) hS (fun q _ h => fA_le hS.1 q h) (fA_le hS.1) (fun r9 u9 t9 H1 locs ht9 hvm9 hw9 hB9 hz9 hk9 hS => ?_)
      obtain ⟨μ13, r14⟩ := u9
      obtain ⟨hP, -⟩ := hB9
      rw [ht9] at hP
      generalize H1 = H at hP hS ⊢
      obtain ⟨e9, hw9⟩ := hw9
      have e9 : r9 = iZ r14 := e9
      subst e9
      simp only at hP hw9
      have hμ13 := hw9; clear hw9
      obtain ⟨w0, w2, w3⟩ := hμ13
      have w1 := fr_mono w0 (fun _ _ h => WKP_PS h)
      refine fz_if_eq (tgt := 72) (by constructor <;> omega) hx hb dX10_taker_60 (by decide) (fun c60_ => ?_) (fun c60_ => ?_)
      · refine lv_iconst (v := iZ (-1)) hx hb dX10_taker_72 rfl ?_
        exact W.iret (v := iZ ((-1))) hx hb hr (fun t9 ht9 hW9 => ⟨⟨iZ ((-1)), (μ13, (-1)), rfl, ⟨rfl, (by
                        dsimp only
                        first | exact ⟨hfr, by omega⟩ | exact ⟨fr_trans hfr w1, by omega⟩)⟩, by rw [ht9]; exact hP, va_K.moved hW9.alike hK⟩, hS.F ht9⟩) hS.2.2 dX10_taker_73
      · refine lv_aload_n hx hb dX10_taker_63 rfl (lv_at hl 1 rfl) ?_
        refine fz_get (D := (dC, dI)) (ci := 10) (v := .ref (h0 + 6321)) (C := RX10) (T := TX10) (N := 53) hx hb hts inG10 hown hK hP (k := 0) (by decide) (F := mF h0) mE_obj rfl 49 (by decide) (hts _ k1215) (fun _ h9 => h9) rfl dX10_taker_64 ?_
        refine lv_iload_n hx hb dX10_taker_67 rfl (lv_at hl 3 rfl) ?_
        refine fz_ld (k := 6321) (n := 60) hx hb hK hP 0 (by decide) mE_takerOf rfl ⟨by omega, by omega⟩ (by decide) dX10_taker_68 ?_
        refine lv_goto (tgt := 73) hx hb dX10_taker_69 (by decide) ?_
        exact W.iret (v := iZ (μ13 6321 (k).toNat)) hx hb hr (fun t9 ht9 hW9 => ⟨⟨iZ (μ13 6321 (k).toNat), (μ13, μ13 6321 (k).toNat), rfl, ⟨rfl, (by
                        dsimp only
                        first | exact ⟨hfr, by omega⟩ | exact ⟨fr_trans hfr w1, by omega⟩)⟩, by rw [ht9]; exact hP, va_K.moved hW9.alike hK⟩, hS.F ht9⟩) hS.2.2 dX10_taker_73
set_option maxHeartbeats 4000000 in
set_option maxRecDepth 100000 in
theorem LX10_users_33 {p : Program} {l : Launch} {e : Env} {R : Room} {s : State} {m : MethodId} {args : Array Value} {below : List Frame} {meth : Method} {c : Code} {cells slots : Nat} {Q : State → Prop} {dC : Nat → ClassId} {dI : Nat → Nat → Nat} {h0 : Nat} {cI cZ cII cIII : ClassId} (hx : p.tables.exec = Jvm.exec) (hb : c.code = cX10_users) (hml : c.maxLocals = 4) (hown : s.vm.findClass RX10 = some m.cls) (hts : ∀ w ∈ wsG, w.before args s = true) (hK : va_K (dC, dI) vwCl (mT cI cZ cII cIII) s) (hRf : 9 ≤ R.frames) (hRl : 215 ≤ R.locals) (hRc : cells ≤ R.cells) (hRs : slots ≤ R.slots) (μ0 : va_M) (i : Int) (hi : 0 ≤ i ∧ i < 900) (hexit74 : ∀ (b9 : Int) (pp : Int) (μ : va_M) (H : Heap) (locs : List Loc) (ls : Array Slot), (fr PS μ0 μ) → (μ 0 0 = μ0 0 0) → va_P (dC, dI) vwCl (fw (mE cI cZ cII cIII h0) h0 6325 μ) H → va_S (fA h0 6325 s.heap.size) s.heap H locs → lv_has ls 4 [(2, .int (iZ (b9)))] → W p l e R s m args below meth c H locs cells slots Q (F0 m 74 ls [])) :
    ∀ (n9 : Nat) (b9 : Int) (pp : Int) (μ : va_M) (H : Heap) (locs : List Loc) (ls : Array Slot), (RQ μ) → (fr PS μ0 μ) → (0 ≤ pp ∧ pp ≤ μ0 0 10) → (μ 0 0 = μ0 0 0) → (inR b9) → (20 - pp).toNat < n9 → va_P (dC, dI) vwCl (fw (mE cI cZ cII cIII h0) h0 6325 μ) H → va_S (fA h0 6325 s.heap.size) s.heap H locs → lv_has ls 4 [(3, .int (iZ (pp))), (2, .int (iZ (b9))), (1, .int (iZ (i))), (0, .ref h0)] → W p l e R s m args below meth c H locs cells slots Q (F0 m 33 ls []) := by
  intro n9
  induction n9 with
  | zero => intro b9 pp μ H locs ls hQ hf hk h00 hb9 hm9 hP hS hl; exact absurd hm9 (Nat.not_lt_zero _)
  | succ n9 ih =>
    intro b9 pp μ H locs ls hQ hf hk h00 hb9 hm9 hP hS hl
    have e10 : μ 0 10 = μ0 0 10 := hf 0 10 (PS_n (by omega))
    have k10 := hQ.1
    refine lv_iload_n hx hb dX10_users_33 rfl (lv_at hl 0 rfl) ?_
    refine lv_aload_n hx hb dX10_users_34 rfl (lv_at hl 3 rfl) ?_
    refine fz_get (D := (dC, dI)) (ci := 10) (v := .int (iZ (μ 0 10))) (C := RX10) (T := TX10) (N := 53) hx hb hts inG10 hown hK hP (k := 0) (by decide) (F := mF h0) mE_obj rfl 10 (by decide) (hts _ k1176) (fun _ h9 => h9) rfl dX10_users_35 ?_
    refine fz_icmp_ge (tgt := 74) (by constructor <;> omega) (by constructor <;> omega) hx hb dX10_users_38 (by decide) (fun c38_ => ?_) (fun c38_ => ?_)
    · exact hexit74 (b9) (pp) μ H locs ls (by exact hf) (by exact h00) hP hS (lv_sub hl [1] rfl)
    · refine lv_iload_n hx hb dX10_users_41 rfl (lv_at hl 1 rfl) ?_
      refine lv_aload_n hx hb dX10_users_42 rfl (lv_at hl 3 rfl) ?_
      refine lv_iload_n hx hb dX10_users_43 rfl (lv_at hl 0 rfl) ?_
      refine va_calli (va_runV (As := [.int (iZ (pp))]) (rest := [.int (iZ (b9))]) ⟨hx, hb, hml, hown, hts⟩ (m_walksPage l dC dI cI cZ cII cIII h0 H.size μ (pp) (by exact hQ) (by omega)) (cwV 1 hts (gV_G k1663 k1665 ks_yX10_walksPage k13 k1666) rfl rfl rfl (by decide +kernel) ⟨by show 8 + 1 ≤ _; omega, by show 8 + (6 + 11) + (190) ≤ _; omega⟩) ⟨fun a U g mk q => by obtain ⟨q0, q1, qP, qK⟩ := q; exact ⟨q0, q1, qP, va_K.moved (u := U) (U := U.calling g mk a) (Vm.Alike.refl U.vm) qK⟩, va_recv hK hP (ci := 10) (q0 := 0) rfl ((fw_get (by decide)).trans (by rw [mE_obj]; rfl)), fun U hU hW => ⟨rfl, by rw [hU], by rw [hU]; exact hP, va_K.moved hW.alike hK⟩⟩ rfl rfl hl.1 rfl (lv_room (Nat.le_of_ble_eq_true rfl)) dX10_users_44 ⟨hRc, hRs⟩) hS (fun q _ h => fA_le hS.1 q h) (fA_le hS.1) (fun r9 u9 t9 H1 locs ht9 hvm9 hw9 hB9 hz9 hk9 hS => ?_)
      obtain ⟨μ1, r2⟩ := u9
      obtain ⟨hP, -⟩ := hB9
      rw [ht9] at hP
      generalize H1 = H at hP hS ⊢
      obtain ⟨e9, hw9⟩ := hw9
      have e9 : r9 = iZ r2 := e9
      subst e9
      simp only at hP hw9
      have hμ1 := hw9; clear hw9
      obtain ⟨w0, w2, w3⟩ := hμ1
      have w1 := fr_mono w0 (fun _ _ h => WKP_PS h)
      have hQ2 := RQ_fr hQ w1
      have w5 : r2 = 0 ∨ (0 ≤ μ1 6319 i.toNat ∧ μ1 6319 i.toNat ≤ 240000) := by
        rcases w3 with h | ⟨_, _, h⟩
        · exact Or.inl h
        · exact Or.inr (h i.toNat (by omega))
      have w6 : r2 = 0 ∨ r2 = 1 := by
        rcases w3 with h | ⟨h, _⟩ <;> omega
      refine fz_if_eq (tgt := 65) (by constructor <;> omega) hx hb dX10_users_47 (by decide) (fun c47_ => ?_) (fun c47_ => ?_)
      · refine lv_iconst (v := iZ 0) hx hb dX10_users_65 rfl ?_
        refine lv_ior hx hb dX10_users_66 ?_
        refine lv_topi (fun x9 ex9 => ?_)
        obtain ⟨z3, rfl, hz3⟩ := iZ_ex x9
        have ez3 := ex9; clear ex9
        refine lv_istore_n (lv' := [(2, .int (iZ (z3))), (3, .int (iZ (pp))), (1, .int (iZ (i))), (0, .ref h0)]) hx hb dX10_users_67 rfl hl (by decide) rfl (fun ls hl => ?_)
        refine lv_iinc (v := iZ (pp + 1)) (lv' := [(3, .int (iZ (pp + 1))), (2, .int (iZ (z3))), (1, .int (iZ (i))), (0, .ref h0)]) hx hb dX10_users_68 hl (k := 1) rfl (iZ_add _ _) (by decide) rfl (fun ls hl => ?_)
        refine lv_goto (tgt := 33) hx hb dX10_users_71 (by decide) ?_
        exact ih (z3) (pp + 1) μ1 H locs ls (by exact hQ2) (by exact fr_trans hf w1) (by omega) (by omega) (by exact hz3) (by omega) hP hS (lv_sub hl [0, 1, 2, 3] rfl)
      · refine lv_aload_n hx hb dX10_users_50 rfl (lv_at hl 3 rfl) ?_
        refine fz_get (D := (dC, dI)) (ci := 10) (v := .ref (h0 + 6319)) (C := RX10) (T := TX10) (N := 53) hx hb hts inG10 hown hK hP (k := 0) (by decide) (F := mF h0) mE_obj rfl 47 (by decide) (hts _ k1213) (fun _ h9 => h9) rfl dX10_users_51 ?_
        refine lv_iload_n hx hb dX10_users_54 rfl (lv_at hl 2 rfl) ?_
        refine fz_ld (k := 6319) (n := 900) hx hb hK hP 0 (by decide) mE_often rfl ⟨by omega, by omega⟩ (by decide) dX10_users_55 ?_
        refine fz_if_le (tgt := 65) (by constructor <;> omega) hx hb dX10_users_56 (by decide) (fun c56_ => ?_) (fun c56_ => ?_)
        · refine lv_iconst (v := iZ 0) hx hb dX10_users_65 rfl ?_
          refine lv_ior hx hb dX10_users_66 ?_
          refine lv_topi (fun x9 ex9 => ?_)
          obtain ⟨z4, rfl, hz4⟩ := iZ_ex x9
          have ez4 := ex9; clear ex9
          refine lv_istore_n (lv' := [(2, .int (iZ (z4))), (3, .int (iZ (pp))), (1, .int (iZ (i))), (0, .ref h0)]) hx hb dX10_users_67 rfl hl (by decide) rfl (fun ls hl => ?_)
          refine lv_iinc (v := iZ (pp + 1)) (lv' := [(3, .int (iZ (pp + 1))), (2, .int (iZ (z4))), (1, .int (iZ (i))), (0, .ref h0)]) hx hb dX10_users_68 hl (k := 1) rfl (iZ_add _ _) (by decide) rfl (fun ls hl => ?_)
          refine lv_goto (tgt := 33) hx hb dX10_users_71 (by decide) ?_
          exact ih (z4) (pp + 1) μ1 H locs ls (by exact hQ2) (by exact fr_trans hf w1) (by omega) (by omega) (by exact hz4) (by omega) hP hS (lv_sub hl [0, 1, 2, 3] rfl)
        · refine lv_iconst (v := iZ 1) hx hb dX10_users_59 rfl ?_
          refine lv_iload_n hx hb dX10_users_60 rfl (lv_at hl 0 rfl) ?_
          refine lv_ishl hx hb dX10_users_61 ?_
          refine lv_topi (fun x9 ex9 => ?_)
          obtain ⟨z5, rfl, hz5⟩ := iZ_ex x9
          have ez5 := ex9; clear ex9
          refine lv_goto (tgt := 66) hx hb dX10_users_62 (by decide) ?_
          refine lv_ior hx hb dX10_users_66 ?_
          refine lv_topi (fun x9 ex9 => ?_)
          obtain ⟨z6, rfl, hz6⟩ := iZ_ex x9
          have ez6 := ex9; clear ex9
          refine lv_istore_n (lv' := [(2, .int (iZ (z6))), (3, .int (iZ (pp))), (1, .int (iZ (i))), (0, .ref h0)]) hx hb dX10_users_67 rfl hl (by decide) rfl (fun ls hl => ?_)
          refine lv_iinc (v := iZ (pp + 1)) (lv' := [(3, .int (iZ (pp + 1))), (2, .int (iZ (z6))), (1, .int (iZ (i))), (0, .ref h0)]) hx hb dX10_users_68 hl (k := 1) rfl (iZ_add _ _) (by decide) rfl (fun ls hl => ?_)
          refine lv_goto (tgt := 33) hx hb dX10_users_71 (by decide) ?_
          exact ih (z6) (pp + 1) μ1 H locs ls (by exact hQ2) (by exact fr_trans hf w1) (by omega) (by omega) (by exact hz6) (by omega) hP hS (lv_sub hl [0, 1, 2, 3] rfl)
set_option maxHeartbeats 4000000 in
set_option maxRecDepth 100000 in
theorem m_users (l : Launch) (dC : Nat → ClassId) (dI : Nat → Nat → Nat) (cI cZ cII cIII : ClassId) (h0 sz : Nat) (μ : va_M) (i : Int) (hQ : RQ μ) (hi9 : inR i) : Met l yX10_users (Cond.code yX10_users cX10_users 4 (some .int) :: wsG) ({ frames := 9, cells := 0, slots := 0, locals := 215 } : Room) (va_Pc [.ref h0, .int (iZ (i))] (fun U => U.heap.size = sz ∧ va_P (dC, dI) vwCl (fw (mE cI cZ cII cIII h0) h0 6325 μ) U.heap ∧ va_K (dC, dI) vwCl (mT cI cZ cII cIII) U)) (va_Qi (fun (r9 : Int32) (u : va_M × Int) => r9 = iZ u.2 ∧ (fun (u : va_M) (r : Int) => fr PS μ u ∧ (u 0 0 = 0 ∨ u 0 0 = 1 ∨ u 0 0 = 2)) u.1 u.2) (fun u t => va_P (dC, dI) vwCl (fw (mE cI cZ cII cIII h0) h0 6325 u.1) t.heap ∧ va_K (dC, dI) vwCl (mT cI cZ cII cIII) t) (fA h0 6325 sz)) 0 0 (fA h0 6325 sz) := by
  refine Met.ofW (cc := cX10_users) (maxL := 4) (ret := (some .int)) (by decide) rfl ?_
  intro p e s m args below meth c s₁ B hml hv
  obtain ⟨rfl, hsz, hP, hK⟩ := hv
  have hx := B.exec
  have hb := B.bytes
  have hr := B.returns
  have hts : ∀ w ∈ wsG, w.before _ s = true := hG_of (atoms_spec (ws := (Cond.code yX10_users cX10_users 4 (some .int) :: wsG)) B.pre)
  have hown : s.vm.findClass RX10 = some m.cls := findClass_of_methodNamed B.named
  have hlocks := B.notSynchronized
  subst hsz
  have hS : va_S (fA h0 6325 s.heap.size) s.heap s.heap [] := va_S.rf
  have hl := lv_entry ([.ref h0, .int (iZ (i))]) (n := 4) (Nat.le_of_ble_eq_true rfl)
  rw [lg_entry_eq]
  generalize (lg_sl ([.ref h0, .int (iZ (i))]) ++ List.replicate (4 - (lg_sl ([.ref h0, .int (iZ (i))])).length) Slot.unset).toArray = ls at hl ⊢
  have hl : lv_has ls 4 [(0, .ref h0), (1, .int (iZ (i)))] := hl
  refine lv_aload_n hx hb dX10_users_0 rfl (lv_at hl 0 rfl) ?_
  refine lv_iconst (v := iZ 0) hx hb dX10_users_1 rfl ?_
  refine fz_put (D := (dC, dI)) (ci := 10) (ty := .int) (z := 0) (C := RX10) (T := TX10) (N := 53) hx hb hts inG10 tyX10 tyX10_ok nmX10 hown hK hP fA_in hS (k := 0) (by decide) (F := mF h0) mE_obj rfl 0 (by decide) (hts _ k1166) (fun _ h9 => h9) rfl (by decide +kernel) rfl rfl (fun _ => Nat.le_of_ble_eq_true rfl) (fun _ _ => rfl) dX10_users_2 (fun H locs hP hS => ?_)
  obtain ⟨μ7, eμ7⟩ : ∃ x : va_M, x = uz μ 0 0 (0) := ⟨_, rfl⟩
  rw [← eμ7] at hP
  have hfr : fr PS μ μ7 := by rw [eμ7]; exact fr_uz fr_rfl (by unfold PS; omega)
  have ht0 : μ7 0 0 = 0 := by rw [eμ7, uz_s]
  have e10 := hfr 0 10 (PS_n (by omega))
  have e9 := hfr 0 9 (PS_n (by omega))
  have e71 := hfr 719 0 (PS_n (by omega))
  have hQ1 := RQ_fr hQ hfr
  have hQc := hQ
  obtain ⟨f10, ⟨fT, fTb, fTw⟩, fS3, fPg, fw9, fwB, fwT⟩ := hQc
  obtain ⟨g10, ⟨gT, gTb, gTw⟩, gS3, gPg, gw, gwB, gwT⟩ := hQ1
  have gtk := TR_tok gwT gwB.1 gwB.2.1
  have gt1 := gtk.1
  have gt2 := gtk.2.1
  refine lv_aload_n hx hb dX10_users_5 rfl (lv_at hl 0 rfl) ?_
  refine lv_aload_n hx hb dX10_users_6 rfl (lv_at hl 0 rfl) ?_
  refine lv_iload_n hx hb dX10_users_7 rfl (lv_at hl 1 rfl) ?_
  refine va_calli (va_runV (As := [.int (iZ (i))]) (rest := [.ref h0]) ⟨hx, hb, hml, hown, hts⟩ (m_isNode l dC dI cI cZ cII cIII h0 H.size μ7 (i) (by first | assumption | omega | exact ⟨by omega, by omega⟩) (by first | assumption | omega | exact ⟨by omega, by omega⟩)) (cwV 1 hts (gV_G k1619 k1621 ks_yX10_isNode k13 k1622) rfl rfl rfl (by decide +kernel) ⟨Nat.le_of_ble_eq_true rfl, Nat.le_of_ble_eq_true rfl⟩) ⟨fun a U g mk q => by obtain ⟨q0, q1, qP, qK⟩ := q; exact ⟨q0, q1, qP, va_K.moved (u := U) (U := U.calling g mk a) (Vm.Alike.refl U.vm) qK⟩, va_recv hK hP (ci := 10) (q0 := 0) rfl ((fw_get (by decide)).trans (by rw [mE_obj]; rfl)), fun U hU hW => ⟨rfl, by rw [hU], by rw [hU]; exact hP, va_K.moved hW.alike hK⟩⟩ rfl rfl hl.1 rfl (lv_room (Nat.le_of_ble_eq_true rfl)) dX10_users_8 ⟨Nat.le_of_ble_eq_true rfl, Nat.le_of_ble_eq_true rfl⟩) hS (fun q _ h => fA_le hS.1 q h) (fA_le hS.1) (fun r9 u9 t9 H1 locs ht9 hvm9 hw9 hB9 hz9 hk9 hS => ?_)
  obtain ⟨μ8, r10⟩ := u9
  obtain ⟨hP, -⟩ := hB9
  rw [ht9] at hP
  generalize H1 = H at hP hS ⊢
  obtain ⟨e9, hw9⟩ := hw9
  have e9 : r9 = iZ r10 := e9
  subst e9
  simp only at hP hw9
  have hμ8 := hw9; clear hw9
  rw [hμ8.1] at hP; have hμ8 := hμ8.2
  have hin := hμ8
  have hin2 := if_01 hμ8
  refine fz_if_ne (tgt := 18) (by constructor <;> omega) hx hb dX10_users_11 (by decide) (fun c11_ => ?_) (fun c11_ => ?_)
  · have hii := if_get hin (by omega)
    refine lv_iconst (v := iZ 0) hx hb dX10_users_18 rfl ?_
    refine lv_iconst (v := iZ 1) hx hb dX10_users_19 rfl ?_
    refine lv_iconst (v := iZ 0) hx hb dX10_users_20 rfl ?_
    refine va_calli (va_runV (As := [.int (iZ (0)), .int (iZ (1)), .int (iZ (0))]) (rest := []) ⟨hx, hb, hml, hown, hts⟩ (m_bad2 l dC dI cI cZ cII cIII h0 H.size μ7 (0) (1) (0) (by first | assumption | omega | exact ⟨by omega, by omega⟩) (by first | assumption | omega | exact ⟨by omega, by omega⟩) (by first | assumption | omega | exact ⟨by omega, by omega⟩) (by first | assumption | omega | exact ⟨by omega, by omega⟩)) (cwV 3 hts (gV_G k1338 k1340 ks_yX10_bad k13 k1341) rfl rfl rfl (by decide +kernel) ⟨Nat.le_of_ble_eq_true rfl, Nat.le_of_ble_eq_true rfl⟩) ⟨fun a U g mk q => by obtain ⟨q0, q1, qP, qK⟩ := q; exact ⟨q0, q1, qP, va_K.moved (u := U) (U := U.calling g mk a) (Vm.Alike.refl U.vm) qK⟩, va_recv hK hP (ci := 10) (q0 := 0) rfl ((fw_get (by decide)).trans (by rw [mE_obj]; rfl)), fun U hU hW => ⟨rfl, by rw [hU], by rw [hU]; exact hP, va_K.moved hW.alike hK⟩⟩ rfl rfl hl.1 rfl (lv_room (Nat.le_of_ble_eq_true rfl)) dX10_users_21 ⟨Nat.le_of_ble_eq_true rfl, Nat.le_of_ble_eq_true rfl⟩) hS (fun q _ h => fA_le hS.1 q h) (fA_le hS.1) (fun r9 u9 t9 H1 locs ht9 hvm9 hw9 hB9 hz9 hk9 hS => ?_)
    obtain ⟨μ11, r12⟩ := u9
    obtain ⟨hP, -⟩ := hB9
    rw [ht9] at hP
    generalize H1 = H at hP hS ⊢
    obtain ⟨e9, hw9⟩ := hw9
    have e9 : r9 = iZ r12 := e9
    subst e9
    simp only at hP hw9
    have hμ11 := hw9; clear hw9
    have hfr := fr_trans hfr (badP_fr hμ11)
    have hrb := badP_r hμ11
    obtain rfl : r12 = 0 := by omega
    refine fz_if_eq (tgt := 29) (by decide) hx hb dX10_users_24 (by decide) (fun c24_ => ?_) (fun h9 => absurd h9 (by decide))
    have hQ2 := RQ_fr hQ hfr
    obtain ⟨k10, ⟨kT, kTb, kTw⟩, kS3, kPg, kw, kwB, kwT⟩ := hQ2
    have e10k := hfr 0 10 (PS_n (by omega))
    have e9k := hfr 0 9 (PS_n (by omega))
    have e71k := hfr 719 0 (PS_n (by omega))
    have ktk := TR_tok kwT kwB.1 kwB.2.1
    have kt1 := ktk.1
    have kt2 := ktk.2.1
    refine lv_iconst (v := iZ 0) hx hb dX10_users_29 rfl ?_
    refine lv_istore_n (lv' := [(2, .int (iZ (0))), (0, .ref h0), (1, .int (iZ (i)))]) hx hb dX10_users_30 rfl hl (by decide) rfl (fun ls hl => ?_)
    refine lv_iconst (v := iZ 0) hx hb dX10_users_31 rfl ?_
    refine lv_istore_n (lv' := [(3, .int (iZ (0))), (2, .int (iZ (0))), (0, .ref h0), (1, .int (iZ (i)))]) hx hb dX10_users_32 rfl hl (by decide) rfl (fun ls hl => ?_)
    refine LX10_users_33 hx hb hml hown hts hK (Nat.le_of_ble_eq_true rfl) (Nat.le_of_ble_eq_true rfl) (Nat.le_of_ble_eq_true rfl) (Nat.le_of_ble_eq_true rfl) (μ11) (i) (by omega) ?_ _ (0) (0) μ11 H locs ls (by exact RQ_fr hQ hfr) (by exact fr_rfl) (by omega) (by rfl) (by constructor <;> decide) (Nat.lt_succ_self _) hP hS (lv_sub hl [0, 1, 3, 2] rfl)
    · intro b9_13 pp_13 μ13_ H locs ls q1_13 q2_13 hP hS hl
      have hl : lv_has ls 4 [(2, .int (iZ (b9_13)))] := hl
      refine lv_iload_n hx hb dX10_users_74 rfl (lv_at hl 0 rfl) ?_
      exact W.iret (v := iZ (b9_13)) hx hb hr (fun t9 ht9 hW9 => ⟨⟨iZ (b9_13), (μ13_, b9_13), rfl, ⟨rfl, (by
                    dsimp only
                    have e00 := q2_13
                    exact ⟨fr_trans hfr q1_13, by omega⟩)⟩, by rw [ht9]; exact hP, va_K.moved hW9.alike hK⟩, hS.F ht9⟩) hS.2.2 dX10_users_75
  · refine lv_iconst (v := iZ 1) hx hb dX10_users_14 rfl ?_
    refine lv_goto (tgt := 19) hx hb dX10_users_15 (by decide) ?_
    refine lv_iconst (v := iZ 1) hx hb dX10_users_19 rfl ?_
    refine lv_iconst (v := iZ 0) hx hb dX10_users_20 rfl ?_
    refine va_calli (va_runV (As := [.int (iZ (1)), .int (iZ (1)), .int (iZ (0))]) (rest := []) ⟨hx, hb, hml, hown, hts⟩ (m_bad2 l dC dI cI cZ cII cIII h0 H.size μ7 (1) (1) (0) (by first | assumption | omega | exact ⟨by omega, by omega⟩) (by first | assumption | omega | exact ⟨by omega, by omega⟩) (by first | assumption | omega | exact ⟨by omega, by omega⟩) (by first | assumption | omega | exact ⟨by omega, by omega⟩)) (cwV 3 hts (gV_G k1338 k1340 ks_yX10_bad k13 k1341) rfl rfl rfl (by decide +kernel) ⟨Nat.le_of_ble_eq_true rfl, Nat.le_of_ble_eq_true rfl⟩) ⟨fun a U g mk q => by obtain ⟨q0, q1, qP, qK⟩ := q; exact ⟨q0, q1, qP, va_K.moved (u := U) (U := U.calling g mk a) (Vm.Alike.refl U.vm) qK⟩, va_recv hK hP (ci := 10) (q0 := 0) rfl ((fw_get (by decide)).trans (by rw [mE_obj]; rfl)), fun U hU hW => ⟨rfl, by rw [hU], by rw [hU]; exact hP, va_K.moved hW.alike hK⟩⟩ rfl rfl hl.1 rfl (lv_room (Nat.le_of_ble_eq_true rfl)) dX10_users_21 ⟨Nat.le_of_ble_eq_true rfl, Nat.le_of_ble_eq_true rfl⟩) hS (fun q _ h => fA_le hS.1 q h) (fA_le hS.1) (fun r9 u9 t9 H1 locs ht9 hvm9 hw9 hB9 hz9 hk9 hS => ?_)
    obtain ⟨μ14, r15⟩ := u9
    obtain ⟨hP, -⟩ := hB9
    rw [ht9] at hP
    generalize H1 = H at hP hS ⊢
    obtain ⟨e9, hw9⟩ := hw9
    have e9 : r9 = iZ r15 := e9
    subst e9
    simp only at hP hw9
    have hμ14 := hw9; clear hw9
    have hfr := fr_trans hfr (badP_fr hμ14)
    have hrb := badP_r hμ14
    obtain rfl : r15 = 1 := by omega
    refine fz_if_eq (tgt := 29) (by decide) hx hb dX10_users_24 (by decide) (fun h9 => absurd h9 (by decide)) (fun c24_ => ?_)
    refine lv_iconst (v := iZ 0) hx hb dX10_users_27 rfl ?_
    exact W.iret (v := iZ (0)) hx hb hr (fun t9 ht9 hW9 => ⟨⟨iZ (0), (μ14, 0), rfl, ⟨rfl, (by
                dsimp only
                exact ⟨hfr, by omega⟩)⟩, by rw [ht9]; exact hP, va_K.moved hW9.alike hK⟩, hS.F ht9⟩) hS.2.2 dX10_users_28
set_option maxHeartbeats 4000000 in
set_option maxRecDepth 100000 in
theorem LX10_greatest_33 {p : Program} {l : Launch} {e : Env} {R : Room} {s : State} {m : MethodId} {args : Array Value} {below : List Frame} {meth : Method} {c : Code} {cells slots : Nat} {Q : State → Prop} {dC : Nat → ClassId} {dI : Nat → Nat → Nat} {h0 : Nat} {cI cZ cII cIII : ClassId} (hx : p.tables.exec = Jvm.exec) (hb : c.code = cX10_greatest) (hml : c.maxLocals = 4) (hown : s.vm.findClass RX10 = some m.cls) (hts : ∀ w ∈ wsG, w.before args s = true) (hK : va_K (dC, dI) vwCl (mT cI cZ cII cIII) s) (hRf : 9 ≤ R.frames) (hRl : 215 ≤ R.locals) (hRc : cells ≤ R.cells) (hRs : slots ≤ R.slots) (μ0 : va_M) (i : Int) (hi : 0 ≤ i ∧ i < 900) (hexit66 : ∀ (b9 : Int) (pp : Int) (μ : va_M) (H : Heap) (locs : List Loc) (ls : Array Slot), (fr PS μ0 μ) → (μ 0 0 = μ0 0 0) → va_P (dC, dI) vwCl (fw (mE cI cZ cII cIII h0) h0 6325 μ) H → va_S (fA h0 6325 s.heap.size) s.heap H locs → lv_has ls 4 [(2, .int (iZ (b9)))] → W p l e R s m args below meth c H locs cells slots Q (F0 m 66 ls [])) :
    ∀ (n9 : Nat) (b9 : Int) (pp : Int) (μ : va_M) (H : Heap) (locs : List Loc) (ls : Array Slot), (RQ μ) → (fr PS μ0 μ) → (0 ≤ pp ∧ pp ≤ μ0 0 10) → (μ 0 0 = μ0 0 0) → (-1 ≤ b9 ∧ b9 ≤ 240000) → (20 - pp).toNat < n9 → va_P (dC, dI) vwCl (fw (mE cI cZ cII cIII h0) h0 6325 μ) H → va_S (fA h0 6325 s.heap.size) s.heap H locs → lv_has ls 4 [(3, .int (iZ (pp))), (2, .int (iZ (b9))), (1, .int (iZ (i))), (0, .ref h0)] → W p l e R s m args below meth c H locs cells slots Q (F0 m 33 ls []) := by
  intro n9
  induction n9 with
  | zero => intro b9 pp μ H locs ls hQ hf hk h00 hb9 hm9 hP hS hl; exact absurd hm9 (Nat.not_lt_zero _)
  | succ n9 ih =>
    intro b9 pp μ H locs ls hQ hf hk h00 hb9 hm9 hP hS hl
    have e10 : μ 0 10 = μ0 0 10 := hf 0 10 (PS_n (by omega))
    have k10 := hQ.1
    refine lv_iload_n hx hb dX10_greatest_33 rfl (lv_at hl 0 rfl) ?_
    refine lv_aload_n hx hb dX10_greatest_34 rfl (lv_at hl 3 rfl) ?_
    refine fz_get (D := (dC, dI)) (ci := 10) (v := .int (iZ (μ 0 10))) (C := RX10) (T := TX10) (N := 53) hx hb hts inG10 hown hK hP (k := 0) (by decide) (F := mF h0) mE_obj rfl 10 (by decide) (hts _ k1176) (fun _ h9 => h9) rfl dX10_greatest_35 ?_
    refine fz_icmp_ge (tgt := 66) (by constructor <;> omega) (by constructor <;> omega) hx hb dX10_greatest_38 (by decide) (fun c38_ => ?_) (fun c38_ => ?_)
    · exact hexit66 (b9) (pp) μ H locs ls (by exact hf) (by exact h00) hP hS (lv_sub hl [1] rfl)
    · refine lv_aload_n hx hb dX10_greatest_41 rfl (lv_at hl 3 rfl) ?_
      refine lv_iload_n hx hb dX10_greatest_42 rfl (lv_at hl 0 rfl) ?_
      refine va_calli (va_runV (As := [.int (iZ (pp))]) (rest := []) ⟨hx, hb, hml, hown, hts⟩ (m_walksPage l dC dI cI cZ cII cIII h0 H.size μ (pp) (by exact hQ) (by omega)) (cwV 1 hts (gV_G k1663 k1665 ks_yX10_walksPage k13 k1666) rfl rfl rfl (by decide +kernel) ⟨by show 8 + 1 ≤ _; omega, by show 8 + (6 + 11) + (190) ≤ _; omega⟩) ⟨fun a U g mk q => by obtain ⟨q0, q1, qP, qK⟩ := q; exact ⟨q0, q1, qP, va_K.moved (u := U) (U := U.calling g mk a) (Vm.Alike.refl U.vm) qK⟩, va_recv hK hP (ci := 10) (q0 := 0) rfl ((fw_get (by decide)).trans (by rw [mE_obj]; rfl)), fun U hU hW => ⟨rfl, by rw [hU], by rw [hU]; exact hP, va_K.moved hW.alike hK⟩⟩ rfl rfl hl.1 rfl (lv_room (Nat.le_of_ble_eq_true rfl)) dX10_greatest_43 ⟨hRc, hRs⟩) hS (fun q _ h => fA_le hS.1 q h) (fA_le hS.1) (fun r9 u9 t9 H1 locs ht9 hvm9 hw9 hB9 hz9 hk9 hS => ?_)
      obtain ⟨μ1, r2⟩ := u9
      obtain ⟨hP, -⟩ := hB9
      rw [ht9] at hP
      generalize H1 = H at hP hS ⊢
      obtain ⟨e9, hw9⟩ := hw9
      have e9 : r9 = iZ r2 := e9
      subst e9
      simp only at hP hw9
      have hμ1 := hw9; clear hw9
      obtain ⟨w0, w2, w3⟩ := hμ1
      have w1 := fr_mono w0 (fun _ _ h => WKP_PS h)
      have hQ2 := RQ_fr hQ w1
      have w5 : r2 = 0 ∨ (0 ≤ μ1 6319 i.toNat ∧ μ1 6319 i.toNat ≤ 240000) := by
        rcases w3 with h | ⟨_, _, h⟩
        · exact Or.inl h
        · exact Or.inr (h i.toNat (by omega))
      have w6 : r2 = 0 ∨ r2 = 1 := by
        rcases w3 with h | ⟨h, _⟩ <;> omega
      refine fz_if_eq (tgt := 60) (by constructor <;> omega) hx hb dX10_greatest_46 (by decide) (fun c46_ => ?_) (fun c46_ => ?_)
      · refine lv_iinc (v := iZ (pp + 1)) (lv' := [(3, .int (iZ (pp + 1))), (2, .int (iZ (b9))), (1, .int (iZ (i))), (0, .ref h0)]) hx hb dX10_greatest_60 hl (k := 0) rfl (iZ_add _ _) (by decide) rfl (fun ls hl => ?_)
        refine lv_goto (tgt := 33) hx hb dX10_greatest_63 (by decide) ?_
        exact ih (b9) (pp + 1) μ1 H locs ls (by exact hQ2) (by exact fr_trans hf w1) (by omega) (by omega) (by first | omega | (have h9 := hμ1; omega)) (by omega) hP hS (lv_sub hl [0, 1, 2, 3] rfl)
      · refine lv_iload_n hx hb dX10_greatest_49 rfl (lv_at hl 1 rfl) ?_
        refine lv_aload_n hx hb dX10_greatest_50 rfl (lv_at hl 3 rfl) ?_
        refine fz_get (D := (dC, dI)) (ci := 10) (v := .ref (h0 + 6319)) (C := RX10) (T := TX10) (N := 53) hx hb hts inG10 hown hK hP (k := 0) (by decide) (F := mF h0) mE_obj rfl 47 (by decide) (hts _ k1213) (fun _ h9 => h9) rfl dX10_greatest_51 ?_
        refine lv_iload_n hx hb dX10_greatest_54 rfl (lv_at hl 2 rfl) ?_
        refine fz_ld (k := 6319) (n := 900) hx hb hK hP 0 (by decide) mE_often rfl ⟨by omega, by omega⟩ (by decide) dX10_greatest_55 ?_
        refine va_calli (va_runS (As := [.int (iZ (b9)), .int (iZ (μ1 6319 (i).toNat))]) (rest := []) ⟨hx, hb, hml, hown, hts⟩ (m_more l dC dI cI cZ cII cIII h0 H.size μ1 (b9) (μ1 6319 (i).toNat) (by constructor <;> omega) (by constructor <;> omega)) (cwS 2 hts (gS_G k1596 k1597 k13 k1598) rfl rfl rfl (by decide +kernel) ⟨by show 1 + 1 ≤ _; omega, by show 8 + (2 + 11) + (14) ≤ _; omega⟩) ⟨fun a U g mk q => by obtain ⟨q0, q1, qP, qK⟩ := q; exact ⟨q0, q1, qP, va_K.moved (u := U) (U := U.calling g mk a) (Vm.Alike.refl U.vm) qK⟩, fun U hU hW => ⟨rfl, by rw [hU], by rw [hU]; exact hP, va_K.moved hW.alike hK⟩⟩ rfl rfl hl.1 rfl (lv_room (Nat.le_of_ble_eq_true rfl)) dX10_greatest_56 ⟨hRc, hRs⟩) hS (fun q _ h => fA_le hS.1 q h) (fA_le hS.1) (fun r9 u9 t9 H1 locs ht9 hvm9 hw9 hB9 hz9 hk9 hS => ?_)
        obtain ⟨μ3, r4⟩ := u9
        obtain ⟨hP, -⟩ := hB9
        rw [ht9] at hP
        generalize H1 = H at hP hS ⊢
        obtain ⟨e9, hw9⟩ := hw9
        have e9 : r9 = iZ r4 := e9
        subst e9
        simp only at hP hw9
        have hμ3 := hw9; clear hw9
        rw [hμ3.1] at hP; have hμ3 := hμ3.2
        refine lv_istore_n (lv' := [(2, .int (iZ (r4))), (3, .int (iZ (pp))), (1, .int (iZ (i))), (0, .ref h0)]) hx hb dX10_greatest_59 rfl hl (by decide) rfl (fun ls hl => ?_)
        refine lv_iinc (v := iZ (pp + 1)) (lv' := [(3, .int (iZ (pp + 1))), (2, .int (iZ (r4))), (1, .int (iZ (i))), (0, .ref h0)]) hx hb dX10_greatest_60 hl (k := 1) rfl (iZ_add _ _) (by decide) rfl (fun ls hl => ?_)
        refine lv_goto (tgt := 33) hx hb dX10_greatest_63 (by decide) ?_
        exact ih (r4) (pp + 1) μ1 H locs ls (by exact hQ2) (by exact fr_trans hf w1) (by omega) (by omega) (by first | omega | (have h9 := hμ3; omega)) (by omega) hP hS (lv_sub hl [0, 1, 2, 3] rfl)
set_option maxHeartbeats 4000000 in
set_option maxRecDepth 100000 in
theorem m_greatest (l : Launch) (dC : Nat → ClassId) (dI : Nat → Nat → Nat) (cI cZ cII cIII : ClassId) (h0 sz : Nat) (μ : va_M) (i : Int) (hQ : RQ μ) (hi9 : inR i) : Met l yX10_greatest (Cond.code yX10_greatest cX10_greatest 4 (some .int) :: wsG) ({ frames := 9, cells := 0, slots := 0, locals := 215 } : Room) (va_Pc [.ref h0, .int (iZ (i))] (fun U => U.heap.size = sz ∧ va_P (dC, dI) vwCl (fw (mE cI cZ cII cIII h0) h0 6325 μ) U.heap ∧ va_K (dC, dI) vwCl (mT cI cZ cII cIII) U)) (va_Qi (fun (r9 : Int32) (u : va_M × Int) => r9 = iZ u.2 ∧ (fun (u : va_M) (r : Int) => fr PS μ u ∧ (u 0 0 = 0 ∨ u 0 0 = 1 ∨ u 0 0 = 2)) u.1 u.2) (fun u t => va_P (dC, dI) vwCl (fw (mE cI cZ cII cIII h0) h0 6325 u.1) t.heap ∧ va_K (dC, dI) vwCl (mT cI cZ cII cIII) t) (fA h0 6325 sz)) 0 0 (fA h0 6325 sz) := by
  refine Met.ofW (cc := cX10_greatest) (maxL := 4) (ret := (some .int)) (by decide) rfl ?_
  intro p e s m args below meth c s₁ B hml hv
  obtain ⟨rfl, hsz, hP, hK⟩ := hv
  have hx := B.exec
  have hb := B.bytes
  have hr := B.returns
  have hts : ∀ w ∈ wsG, w.before _ s = true := hG_of (atoms_spec (ws := (Cond.code yX10_greatest cX10_greatest 4 (some .int) :: wsG)) B.pre)
  have hown : s.vm.findClass RX10 = some m.cls := findClass_of_methodNamed B.named
  have hlocks := B.notSynchronized
  subst hsz
  have hS : va_S (fA h0 6325 s.heap.size) s.heap s.heap [] := va_S.rf
  have hl := lv_entry ([.ref h0, .int (iZ (i))]) (n := 4) (Nat.le_of_ble_eq_true rfl)
  rw [lg_entry_eq]
  generalize (lg_sl ([.ref h0, .int (iZ (i))]) ++ List.replicate (4 - (lg_sl ([.ref h0, .int (iZ (i))])).length) Slot.unset).toArray = ls at hl ⊢
  have hl : lv_has ls 4 [(0, .ref h0), (1, .int (iZ (i)))] := hl
  refine lv_aload_n hx hb dX10_greatest_0 rfl (lv_at hl 0 rfl) ?_
  refine lv_iconst (v := iZ 0) hx hb dX10_greatest_1 rfl ?_
  refine fz_put (D := (dC, dI)) (ci := 10) (ty := .int) (z := 0) (C := RX10) (T := TX10) (N := 53) hx hb hts inG10 tyX10 tyX10_ok nmX10 hown hK hP fA_in hS (k := 0) (by decide) (F := mF h0) mE_obj rfl 0 (by decide) (hts _ k1166) (fun _ h9 => h9) rfl (by decide +kernel) rfl rfl (fun _ => Nat.le_of_ble_eq_true rfl) (fun _ _ => rfl) dX10_greatest_2 (fun H locs hP hS => ?_)
  obtain ⟨μ5, eμ5⟩ : ∃ x : va_M, x = uz μ 0 0 (0) := ⟨_, rfl⟩
  rw [← eμ5] at hP
  have hfr : fr PS μ μ5 := by rw [eμ5]; exact fr_uz fr_rfl (by unfold PS; omega)
  have ht0 : μ5 0 0 = 0 := by rw [eμ5, uz_s]
  have e10 := hfr 0 10 (PS_n (by omega))
  have e9 := hfr 0 9 (PS_n (by omega))
  have e71 := hfr 719 0 (PS_n (by omega))
  have hQ1 := RQ_fr hQ hfr
  have hQc := hQ
  obtain ⟨f10, ⟨fT, fTb, fTw⟩, fS3, fPg, fw9, fwB, fwT⟩ := hQc
  obtain ⟨g10, ⟨gT, gTb, gTw⟩, gS3, gPg, gw, gwB, gwT⟩ := hQ1
  have gtk := TR_tok gwT gwB.1 gwB.2.1
  have gt1 := gtk.1
  have gt2 := gtk.2.1
  refine lv_aload_n hx hb dX10_greatest_5 rfl (lv_at hl 0 rfl) ?_
  refine lv_aload_n hx hb dX10_greatest_6 rfl (lv_at hl 0 rfl) ?_
  refine lv_iload_n hx hb dX10_greatest_7 rfl (lv_at hl 1 rfl) ?_
  refine va_calli (va_runV (As := [.int (iZ (i))]) (rest := [.ref h0]) ⟨hx, hb, hml, hown, hts⟩ (m_isNode l dC dI cI cZ cII cIII h0 H.size μ5 (i) (by first | assumption | omega | exact ⟨by omega, by omega⟩) (by first | assumption | omega | exact ⟨by omega, by omega⟩)) (cwV 1 hts (gV_G k1619 k1621 ks_yX10_isNode k13 k1622) rfl rfl rfl (by decide +kernel) ⟨Nat.le_of_ble_eq_true rfl, Nat.le_of_ble_eq_true rfl⟩) ⟨fun a U g mk q => by obtain ⟨q0, q1, qP, qK⟩ := q; exact ⟨q0, q1, qP, va_K.moved (u := U) (U := U.calling g mk a) (Vm.Alike.refl U.vm) qK⟩, va_recv hK hP (ci := 10) (q0 := 0) rfl ((fw_get (by decide)).trans (by rw [mE_obj]; rfl)), fun U hU hW => ⟨rfl, by rw [hU], by rw [hU]; exact hP, va_K.moved hW.alike hK⟩⟩ rfl rfl hl.1 rfl (lv_room (Nat.le_of_ble_eq_true rfl)) dX10_greatest_8 ⟨Nat.le_of_ble_eq_true rfl, Nat.le_of_ble_eq_true rfl⟩) hS (fun q _ h => fA_le hS.1 q h) (fA_le hS.1) (fun r9 u9 t9 H1 locs ht9 hvm9 hw9 hB9 hz9 hk9 hS => ?_)
  obtain ⟨μ6, r7⟩ := u9
  obtain ⟨hP, -⟩ := hB9
  rw [ht9] at hP
  generalize H1 = H at hP hS ⊢
  obtain ⟨e9, hw9⟩ := hw9
  have e9 : r9 = iZ r7 := e9
  subst e9
  simp only at hP hw9
  have hμ6 := hw9; clear hw9
  rw [hμ6.1] at hP; have hμ6 := hμ6.2
  have hin := hμ6
  have hin2 := if_01 hμ6
  refine fz_if_ne (tgt := 18) (by constructor <;> omega) hx hb dX10_greatest_11 (by decide) (fun c11_ => ?_) (fun c11_ => ?_)
  · have hii := if_get hin (by omega)
    refine lv_iconst (v := iZ 0) hx hb dX10_greatest_18 rfl ?_
    refine lv_iconst (v := iZ 1) hx hb dX10_greatest_19 rfl ?_
    refine lv_iconst (v := iZ 0) hx hb dX10_greatest_20 rfl ?_
    refine va_calli (va_runV (As := [.int (iZ (0)), .int (iZ (1)), .int (iZ (0))]) (rest := []) ⟨hx, hb, hml, hown, hts⟩ (m_bad2 l dC dI cI cZ cII cIII h0 H.size μ5 (0) (1) (0) (by first | assumption | omega | exact ⟨by omega, by omega⟩) (by first | assumption | omega | exact ⟨by omega, by omega⟩) (by first | assumption | omega | exact ⟨by omega, by omega⟩) (by first | assumption | omega | exact ⟨by omega, by omega⟩)) (cwV 3 hts (gV_G k1338 k1340 ks_yX10_bad k13 k1341) rfl rfl rfl (by decide +kernel) ⟨Nat.le_of_ble_eq_true rfl, Nat.le_of_ble_eq_true rfl⟩) ⟨fun a U g mk q => by obtain ⟨q0, q1, qP, qK⟩ := q; exact ⟨q0, q1, qP, va_K.moved (u := U) (U := U.calling g mk a) (Vm.Alike.refl U.vm) qK⟩, va_recv hK hP (ci := 10) (q0 := 0) rfl ((fw_get (by decide)).trans (by rw [mE_obj]; rfl)), fun U hU hW => ⟨rfl, by rw [hU], by rw [hU]; exact hP, va_K.moved hW.alike hK⟩⟩ rfl rfl hl.1 rfl (lv_room (Nat.le_of_ble_eq_true rfl)) dX10_greatest_21 ⟨Nat.le_of_ble_eq_true rfl, Nat.le_of_ble_eq_true rfl⟩) hS (fun q _ h => fA_le hS.1 q h) (fA_le hS.1) (fun r9 u9 t9 H1 locs ht9 hvm9 hw9 hB9 hz9 hk9 hS => ?_)
    obtain ⟨μ8, r10⟩ := u9
    obtain ⟨hP, -⟩ := hB9
    rw [ht9] at hP
    generalize H1 = H at hP hS ⊢
    obtain ⟨e9, hw9⟩ := hw9
    have e9 : r9 = iZ r10 := e9
    subst e9
    simp only at hP hw9
    have hμ8 := hw9; clear hw9
    have hfr := fr_trans hfr (badP_fr hμ8)
    have hrb := badP_r hμ8
    obtain rfl : r10 = 0 := by omega
    refine fz_if_eq (tgt := 29) (by decide) hx hb dX10_greatest_24 (by decide) (fun c24_ => ?_) (fun h9 => absurd h9 (by decide))
    have hQ2 := RQ_fr hQ hfr
    obtain ⟨k10, ⟨kT, kTb, kTw⟩, kS3, kPg, kw, kwB, kwT⟩ := hQ2
    have e10k := hfr 0 10 (PS_n (by omega))
    have e9k := hfr 0 9 (PS_n (by omega))
    have e71k := hfr 719 0 (PS_n (by omega))
    have ktk := TR_tok kwT kwB.1 kwB.2.1
    have kt1 := ktk.1
    have kt2 := ktk.2.1
    refine lv_iconst (v := iZ (-1)) hx hb dX10_greatest_29 rfl ?_
    refine lv_istore_n (lv' := [(2, .int (iZ ((-1)))), (0, .ref h0), (1, .int (iZ (i)))]) hx hb dX10_greatest_30 rfl hl (by decide) rfl (fun ls hl => ?_)
    refine lv_iconst (v := iZ 0) hx hb dX10_greatest_31 rfl ?_
    refine lv_istore_n (lv' := [(3, .int (iZ (0))), (2, .int (iZ ((-1)))), (0, .ref h0), (1, .int (iZ (i)))]) hx hb dX10_greatest_32 rfl hl (by decide) rfl (fun ls hl => ?_)
    refine LX10_greatest_33 hx hb hml hown hts hK (Nat.le_of_ble_eq_true rfl) (Nat.le_of_ble_eq_true rfl) (Nat.le_of_ble_eq_true rfl) (Nat.le_of_ble_eq_true rfl) (μ8) (i) (by omega) ?_ _ ((-1)) (0) μ8 H locs ls (by exact RQ_fr hQ hfr) (by exact fr_rfl) (by omega) (by rfl) (by omega) (Nat.lt_succ_self _) hP hS (lv_sub hl [0, 1, 3, 2] rfl)
    · intro b9_11 pp_11 μ11_ H locs ls q1_11 q2_11 hP hS hl
      have hl : lv_has ls 4 [(2, .int (iZ (b9_11)))] := hl
      refine lv_iload_n hx hb dX10_greatest_66 rfl (lv_at hl 0 rfl) ?_
      exact W.iret (v := iZ (b9_11)) hx hb hr (fun t9 ht9 hW9 => ⟨⟨iZ (b9_11), (μ11_, b9_11), rfl, ⟨rfl, (by
                    dsimp only
                    have e00 := q2_11
                    exact ⟨fr_trans hfr q1_11, by omega⟩)⟩, by rw [ht9]; exact hP, va_K.moved hW9.alike hK⟩, hS.F ht9⟩) hS.2.2 dX10_greatest_67
  · refine lv_iconst (v := iZ 1) hx hb dX10_greatest_14 rfl ?_
    refine lv_goto (tgt := 19) hx hb dX10_greatest_15 (by decide) ?_
    refine lv_iconst (v := iZ 1) hx hb dX10_greatest_19 rfl ?_
    refine lv_iconst (v := iZ 0) hx hb dX10_greatest_20 rfl ?_
    refine va_calli (va_runV (As := [.int (iZ (1)), .int (iZ (1)), .int (iZ (0))]) (rest := []) ⟨hx, hb, hml, hown, hts⟩ (m_bad2 l dC dI cI cZ cII cIII h0 H.size μ5 (1) (1) (0) (by first | assumption | omega | exact ⟨by omega, by omega⟩) (by first | assumption | omega | exact ⟨by omega, by omega⟩) (by first | assumption | omega | exact ⟨by omega, by omega⟩) (by first | assumption | omega | exact ⟨by omega, by omega⟩)) (cwV 3 hts (gV_G k1338 k1340 ks_yX10_bad k13 k1341) rfl rfl rfl (by decide +kernel) ⟨Nat.le_of_ble_eq_true rfl, Nat.le_of_ble_eq_true rfl⟩) ⟨fun a U g mk q => by obtain ⟨q0, q1, qP, qK⟩ := q; exact ⟨q0, q1, qP, va_K.moved (u := U) (U := U.calling g mk a) (Vm.Alike.refl U.vm) qK⟩, va_recv hK hP (ci := 10) (q0 := 0) rfl ((fw_get (by decide)).trans (by rw [mE_obj]; rfl)), fun U hU hW => ⟨rfl, by rw [hU], by rw [hU]; exact hP, va_K.moved hW.alike hK⟩⟩ rfl rfl hl.1 rfl (lv_room (Nat.le_of_ble_eq_true rfl)) dX10_greatest_21 ⟨Nat.le_of_ble_eq_true rfl, Nat.le_of_ble_eq_true rfl⟩) hS (fun q _ h => fA_le hS.1 q h) (fA_le hS.1) (fun r9 u9 t9 H1 locs ht9 hvm9 hw9 hB9 hz9 hk9 hS => ?_)
    obtain ⟨μ12, r13⟩ := u9
    obtain ⟨hP, -⟩ := hB9
    rw [ht9] at hP
    generalize H1 = H at hP hS ⊢
    obtain ⟨e9, hw9⟩ := hw9
    have e9 : r9 = iZ r13 := e9
    subst e9
    simp only at hP hw9
    have hμ12 := hw9; clear hw9
    have hfr := fr_trans hfr (badP_fr hμ12)
    have hrb := badP_r hμ12
    obtain rfl : r13 = 1 := by omega
    refine fz_if_eq (tgt := 29) (by decide) hx hb dX10_greatest_24 (by decide) (fun h9 => absurd h9 (by decide)) (fun c24_ => ?_)
    refine lv_iconst (v := iZ 0) hx hb dX10_greatest_27 rfl ?_
    exact W.iret (v := iZ (0)) hx hb hr (fun t9 ht9 hW9 => ⟨⟨iZ (0), (μ12, 0), rfl, ⟨rfl, (by
                dsimp only
                exact ⟨hfr, by omega⟩)⟩, by rw [ht9]; exact hP, va_K.moved hW9.alike hK⟩, hS.F ht9⟩) hS.2.2 dX10_greatest_28

set_option maxRecDepth 100000 in
theorem k1440 : (Cond.methodLink "PageSkeletonModel" (304 : Nat) ({ cls := "PageSkeletonModel", name := "tidiesAll", desc := "()I" } : MethodName)) ∈ wsG := wsG_a7 0 rfl rfl
set_option maxRecDepth 100000 in
theorem k1442 : (Cond.instanceMethod ({ cls := "PageSkeletonModel", name := "tidiesAll", desc := "()I" } : MethodName)) ∈ wsG := wsG_a7 2 rfl rfl
set_option maxRecDepth 100000 in
theorem k1443 : (Cond.code ({ cls := "PageSkeletonModel", name := "tidiesAll", desc := "()I" } : MethodName) prog_12_method_48_code (1 : Nat) (Option.some FieldType.int)) ∈ wsG := wsG_a7 3 rfl rfl
set_option maxRecDepth 100000 in
theorem k1496 : (Cond.methodLink "PageSkeletonModel" (316 : Nat) ({ cls := "PageSkeletonModel", name := "fitMany", desc := "()I" } : MethodName)) ∈ wsG := wsG_a7 56 rfl rfl
set_option maxRecDepth 100000 in
theorem k1498 : (Cond.instanceMethod ({ cls := "PageSkeletonModel", name := "fitMany", desc := "()I" } : MethodName)) ∈ wsG := wsG_a7 58 rfl rfl
set_option maxRecDepth 100000 in
theorem k1499 : (Cond.code ({ cls := "PageSkeletonModel", name := "fitMany", desc := "()I" } : MethodName) prog_12_method_50_code (3 : Nat) (Option.some FieldType.int)) ∈ wsG := wsG_a7 59 rfl rfl
set_option maxRecDepth 100000 in
theorem ks_yX10_tidiesAll : Cond.selects RX10 yX10_tidiesAll yX10_tidiesAll ∈ wsG := wsG_p 69 rfl rfl
set_option maxRecDepth 100000 in
theorem ks_yX10_fitMany : Cond.selects RX10 yX10_fitMany yX10_fitMany ∈ wsG := wsG_p 82 rfl rfl
theorem dX10_tidied_0 : decode cX10_tidied 0 = .ok (.aload_n 0, 1) := by decide +kernel
theorem dX10_tidied_1 : decode cX10_tidied 1 = .ok (.iconst 0, 1) := by decide +kernel
theorem dX10_tidied_2 : decode cX10_tidied 2 = .ok (.putfield 127, 3) := by decide +kernel
theorem dX10_tidied_5 : decode cX10_tidied 5 = .ok (.aload_n 0, 1) := by decide +kernel
theorem dX10_tidied_6 : decode cX10_tidied 6 = .ok (.iload_n 1, 1) := by decide +kernel
theorem dX10_tidied_7 : decode cX10_tidied 7 = .ok (.iconst 0, 1) := by decide +kernel
theorem dX10_tidied_8 : decode cX10_tidied 8 = .ok (.iconst 3, 1) := by decide +kernel
theorem dX10_tidied_9 : decode cX10_tidied 9 = .ok (.invokestatic 173, 3) := by decide +kernel
theorem dX10_tidied_12 : decode cX10_tidied 12 = .ok (.ifCond .ne 7, 3) := by decide +kernel
theorem dX10_tidied_15 : decode cX10_tidied 15 = .ok (.iconst 1, 1) := by decide +kernel
theorem dX10_tidied_16 : decode cX10_tidied 16 = .ok (.goto 4, 3) := by decide +kernel
theorem dX10_tidied_19 : decode cX10_tidied 19 = .ok (.iconst 0, 1) := by decide +kernel
theorem dX10_tidied_20 : decode cX10_tidied 20 = .ok (.iconst 1, 1) := by decide +kernel
theorem dX10_tidied_21 : decode cX10_tidied 21 = .ok (.iconst 1, 1) := by decide +kernel
theorem dX10_tidied_22 : decode cX10_tidied 22 = .ok (.invokevirtual 177, 3) := by decide +kernel
theorem dX10_tidied_25 : decode cX10_tidied 25 = .ok (.ifCond .eq 5, 3) := by decide +kernel
theorem dX10_tidied_28 : decode cX10_tidied 28 = .ok (.iconst 0, 1) := by decide +kernel
theorem dX10_tidied_29 : decode cX10_tidied 29 = .ok (.ireturn, 1) := by decide +kernel
theorem dX10_tidied_30 : decode cX10_tidied 30 = .ok (.aload_n 0, 1) := by decide +kernel
theorem dX10_tidied_31 : decode cX10_tidied 31 = .ok (.invokevirtual 304, 3) := by decide +kernel
theorem dX10_tidied_34 : decode cX10_tidied 34 = .ok (.istore_n 2, 1) := by decide +kernel
theorem dX10_tidied_35 : decode cX10_tidied 35 = .ok (.iload_n 1, 1) := by decide +kernel
theorem dX10_tidied_36 : decode cX10_tidied 36 = .ok (.iconst 3, 1) := by decide +kernel
theorem dX10_tidied_37 : decode cX10_tidied 37 = .ok (.if_icmp .ge 33, 3) := by decide +kernel
theorem dX10_tidied_40 : decode cX10_tidied 40 = .ok (.iload_n 1, 1) := by decide +kernel
theorem dX10_tidied_41 : decode cX10_tidied 41 = .ok (.ifCond .ne 7, 3) := by decide +kernel
theorem dX10_tidied_44 : decode cX10_tidied 44 = .ok (.iload_n 2, 1) := by decide +kernel
theorem dX10_tidied_45 : decode cX10_tidied 45 = .ok (.goto 24, 3) := by decide +kernel
theorem dX10_tidied_48 : decode cX10_tidied 48 = .ok (.iload_n 1, 1) := by decide +kernel
theorem dX10_tidied_49 : decode cX10_tidied 49 = .ok (.iconst 1, 1) := by decide +kernel
theorem dX10_tidied_50 : decode cX10_tidied 50 = .ok (.if_icmp .ne 12, 3) := by decide +kernel
theorem dX10_tidied_53 : decode cX10_tidied 53 = .ok (.aload_n 0, 1) := by decide +kernel
theorem dX10_tidied_54 : decode cX10_tidied 54 = .ok (.bipush 54, 2) := by decide +kernel
theorem dX10_tidied_56 : decode cX10_tidied 56 = .ok (.invokevirtual 313, 3) := by decide +kernel
theorem dX10_tidied_59 : decode cX10_tidied 59 = .ok (.goto 10, 3) := by decide +kernel
theorem dX10_tidied_62 : decode cX10_tidied 62 = .ok (.aload_n 0, 1) := by decide +kernel
theorem dX10_tidied_63 : decode cX10_tidied 63 = .ok (.getfield 54, 3) := by decide +kernel
theorem dX10_tidied_66 : decode cX10_tidied 66 = .ok (.bipush 54, 2) := by decide +kernel
theorem dX10_tidied_68 : decode cX10_tidied 68 = .ok (.iaload, 1) := by decide +kernel
theorem dX10_tidied_69 : decode cX10_tidied 69 = .ok (.ireturn, 1) := by decide +kernel
theorem dX10_tidied_70 : decode cX10_tidied 70 = .ok (.aload_n 0, 1) := by decide +kernel
theorem dX10_tidied_71 : decode cX10_tidied 71 = .ok (.iconst 0, 1) := by decide +kernel
theorem dX10_tidied_72 : decode cX10_tidied 72 = .ok (.bipush 50, 2) := by decide +kernel
theorem dX10_tidied_74 : decode cX10_tidied 74 = .ok (.invokevirtual 241, 3) := by decide +kernel
theorem dX10_tidied_77 : decode cX10_tidied 77 = .ok (.aload_n 0, 1) := by decide +kernel
theorem dX10_tidied_78 : decode cX10_tidied 78 = .ok (.bipush 54, 2) := by decide +kernel
theorem dX10_tidied_80 : decode cX10_tidied 80 = .ok (.iconst 0, 1) := by decide +kernel
theorem dX10_tidied_81 : decode cX10_tidied 81 = .ok (.invokevirtual 241, 3) := by decide +kernel
theorem dX10_tidied_84 : decode cX10_tidied 84 = .ok (.aload_n 0, 1) := by decide +kernel
theorem dX10_tidied_85 : decode cX10_tidied 85 = .ok (.invokevirtual 316, 3) := by decide +kernel
theorem dX10_tidied_88 : decode cX10_tidied 88 = .ok (.istore_n 2, 1) := by decide +kernel
theorem dX10_tidied_89 : decode cX10_tidied 89 = .ok (.aload_n 0, 1) := by decide +kernel
theorem dX10_tidied_90 : decode cX10_tidied 90 = .ok (.bipush 50, 2) := by decide +kernel
theorem dX10_tidied_92 : decode cX10_tidied 92 = .ok (.iconst 0, 1) := by decide +kernel
theorem dX10_tidied_93 : decode cX10_tidied 93 = .ok (.invokevirtual 241, 3) := by decide +kernel
theorem dX10_tidied_96 : decode cX10_tidied 96 = .ok (.iload_n 2, 1) := by decide +kernel
theorem dX10_tidied_97 : decode cX10_tidied 97 = .ok (.ireturn, 1) := by decide +kernel
theorem dX10_tidiesAll_0 : decode cX10_tidiesAll 0 = .ok (.aload_n 0, 1) := by decide +kernel
theorem dX10_tidiesAll_1 : decode cX10_tidiesAll 1 = .ok (.iconst 0, 1) := by decide +kernel
theorem dX10_tidiesAll_2 : decode cX10_tidiesAll 2 = .ok (.putfield 287, 3) := by decide +kernel
theorem dX10_tidiesAll_5 : decode cX10_tidiesAll 5 = .ok (.aload_n 0, 1) := by decide +kernel
theorem dX10_tidiesAll_6 : decode cX10_tidiesAll 6 = .ok (.iconst 0, 1) := by decide +kernel
theorem dX10_tidiesAll_7 : decode cX10_tidiesAll 7 = .ok (.iconst 0, 1) := by decide +kernel
theorem dX10_tidiesAll_8 : decode cX10_tidiesAll 8 = .ok (.aload_n 0, 1) := by decide +kernel
theorem dX10_tidiesAll_9 : decode cX10_tidiesAll 9 = .ok (.getfield 54, 3) := by decide +kernel
theorem dX10_tidiesAll_12 : decode cX10_tidiesAll 12 = .ok (.iconst 0, 1) := by decide +kernel
theorem dX10_tidiesAll_13 : decode cX10_tidiesAll 13 = .ok (.iaload, 1) := by decide +kernel
theorem dX10_tidiesAll_14 : decode cX10_tidiesAll 14 = .ok (.iconst 0, 1) := by decide +kernel
theorem dX10_tidiesAll_15 : decode cX10_tidiesAll 15 = .ok (.invokevirtual 280, 3) := by decide +kernel
theorem dX10_tidiesAll_18 : decode cX10_tidiesAll 18 = .ok (.aload_n 0, 1) := by decide +kernel
theorem dX10_tidiesAll_19 : decode cX10_tidiesAll 19 = .ok (.getfield 287, 3) := by decide +kernel
theorem dX10_tidiesAll_22 : decode cX10_tidiesAll 22 = .ok (.ireturn, 1) := by decide +kernel
theorem dX10_tidy_0 : decode cX10_tidy 0 = .ok (.aload_n 0, 1) := by decide +kernel
theorem dX10_tidy_1 : decode cX10_tidy 1 = .ok (.iconst 0, 1) := by decide +kernel
theorem dX10_tidy_2 : decode cX10_tidy 2 = .ok (.putfield 127, 3) := by decide +kernel
theorem dX10_tidy_5 : decode cX10_tidy 5 = .ok (.aload_n 0, 1) := by decide +kernel
theorem dX10_tidy_6 : decode cX10_tidy 6 = .ok (.invokevirtual 304, 3) := by decide +kernel
theorem dX10_tidy_9 : decode cX10_tidy 9 = .ok (.istore_n 1, 1) := by decide +kernel
theorem dX10_tidy_10 : decode cX10_tidy 10 = .ok (.iload_n 1, 1) := by decide +kernel
theorem dX10_tidy_11 : decode cX10_tidy 11 = .ok (.ifCond .ne 5, 3) := by decide +kernel
theorem dX10_tidy_14 : decode cX10_tidy 14 = .ok (.iconst 0, 1) := by decide +kernel
theorem dX10_tidy_15 : decode cX10_tidy 15 = .ok (.ireturn, 1) := by decide +kernel
theorem dX10_tidy_16 : decode cX10_tidy 16 = .ok (.aload_n 0, 1) := by decide +kernel
theorem dX10_tidy_17 : decode cX10_tidy 17 = .ok (.iconst 0, 1) := by decide +kernel
theorem dX10_tidy_18 : decode cX10_tidy 18 = .ok (.invokevirtual 307, 3) := by decide +kernel
theorem dX10_tidy_21 : decode cX10_tidy 21 = .ok (.aload_n 0, 1) := by decide +kernel
theorem dX10_tidy_22 : decode cX10_tidy 22 = .ok (.bipush 54, 2) := by decide +kernel
theorem dX10_tidy_24 : decode cX10_tidy 24 = .ok (.iconst 0, 1) := by decide +kernel
theorem dX10_tidy_25 : decode cX10_tidy 25 = .ok (.invokevirtual 241, 3) := by decide +kernel
theorem dX10_tidy_28 : decode cX10_tidy 28 = .ok (.iload_n 1, 1) := by decide +kernel
theorem dX10_tidy_29 : decode cX10_tidy 29 = .ok (.ireturn, 1) := by decide +kernel
/-! the skeleton tidied -/
def JTD (J : Rw → Prop) : Prop := (∀ w : Rw, J w → OKr w) ∧ ∀ w u : Rw, J w → TDr w u → J u
theorem JS_TDok : JTD JS := ⟨fun _ h => JS_OK h, fun _ _ h h2 => JS_TD h2 h⟩
theorem TC_PS {x y : Nat} (h : TC 0 x y) : PS x y := by
  unfold TC P8 PT at h
  unfold PS
  rcases h with h | h | h | h | h | h | h | h
  · omega
  · omega
  · omega
  · omega
  · rcases h with h | h | h
    · omega
    · omega
    · omega
  · omega
  · omega
  · omega
theorem TC_00 {y : Nat} (h : y ≠ 38) : ¬ TC 0 0 y := by
  unfold TC P8 PT
  intro h9
  rcases h9 with h9 | h9 | h9 | h9 | h9 | h9 | h9 | h9
  · omega
  · omega
  · omega
  · omega
  · rcases h9 with h9 | h9 | h9 <;> omega
  · omega
  · omega
  · omega
theorem TC_t0 (x : Nat) : ¬ TC 0 (507 + 0) x ∧ ¬ TC 0 (578 + 0) x ∧ ¬ TC 0 (649 + 0) x := ⟨TC_0 (by omega) (by omega), fun h => by have := TC_PS h; unfold PS at this; omega, fun h => by have := TC_PS h; unfold PS at this; omega⟩
theorem TC_n0 : ¬ TC 0 719 0 := fun h => by have := TC_PS h; unfold PS at this; omega

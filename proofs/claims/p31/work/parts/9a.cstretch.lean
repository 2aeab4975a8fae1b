set_option maxRecDepth 100000 in
theorem k1 : (Cond.initialized "PageSkeleton") ∈ wsG := wsG_a1 1 rfl rfl
set_option maxRecDepth 100000 in
theorem k19 : (Cond.initialized "java/lang/System") ∈ wsG := wsG_a1 19 rfl rfl
set_option maxRecDepth 100000 in
theorem k446 : (Cond.static ({ cls := "PageSkeleton", name := "areAlike", desc := "(II)Z" } : MethodName)) ∈ wsG := wsG_a2 206 rfl rfl
set_option maxRecDepth 100000 in
theorem k447 : (Cond.code ({ cls := "PageSkeleton", name := "areAlike", desc := "(II)Z" } : MethodName) prog_1_method_57_code (2 : Nat) (Option.some FieldType.boolean)) ∈ wsG := wsG_a2 207 rfl rfl
set_option maxRecDepth 100000 in
theorem k457 : (Cond.static ({ cls := "PageSkeleton", name := "fused", desc := "(II)I" } : MethodName)) ∈ wsG := wsG_a2 217 rfl rfl
set_option maxRecDepth 100000 in
theorem k458 : (Cond.code ({ cls := "PageSkeleton", name := "fused", desc := "(II)I" } : MethodName) prog_1_method_58_code (2 : Nat) (Option.some FieldType.int)) ∈ wsG := wsG_a2 218 rfl rfl
set_option maxRecDepth 100000 in
theorem k463 : (Cond.methodLink "PageSkeleton$Row" (79 : Nat) ({ cls := "java/lang/System", name := "arraycopy", desc := "(Ljava/lang/Object;ILjava/lang/Object;II)V" } : MethodName)) ∈ wsG := wsG_a2 223 rfl rfl
set_option maxRecDepth 100000 in
theorem k464 : (Cond.static ({ cls := "java/lang/System", name := "arraycopy", desc := "(Ljava/lang/Object;ILjava/lang/Object;II)V" } : MethodName)) ∈ wsG := wsG_a2 224 rfl rfl
set_option maxRecDepth 100000 in
theorem k465 : (Cond.native ({ cls := "java/lang/System", name := "arraycopy", desc := "(Ljava/lang/Object;ILjava/lang/Object;II)V" } : MethodName)) ∈ wsG := wsG_a2 225 rfl rfl
set_option maxRecDepth 100000 in
theorem k786 : (Cond.static ({ cls := "PageSkeleton", name := "costOfFusing", desc := "(II)I" } : MethodName)) ∈ wsG := wsG_a4 66 rfl rfl
set_option maxRecDepth 100000 in
theorem k787 : (Cond.code ({ cls := "PageSkeleton", name := "costOfFusing", desc := "(II)I" } : MethodName) prog_1_method_59_code (2 : Nat) (Option.some FieldType.int)) ∈ wsG := wsG_a4 67 rfl rfl
theorem dX4_costOfRange_0 : decode cX4_costOfRange 0 = .ok (.iconst 0, 1) := by decide +kernel
theorem dX4_costOfRange_1 : decode cX4_costOfRange 1 = .ok (.istore 5, 2) := by decide +kernel
theorem dX4_costOfRange_3 : decode cX4_costOfRange 3 = .ok (.iconst 0, 1) := by decide +kernel
theorem dX4_costOfRange_4 : decode cX4_costOfRange 4 = .ok (.istore 6, 2) := by decide +kernel
theorem dX4_costOfRange_6 : decode cX4_costOfRange 6 = .ok (.iload 6, 2) := by decide +kernel
theorem dX4_costOfRange_8 : decode cX4_costOfRange 8 = .ok (.iload 4, 2) := by decide +kernel
theorem dX4_costOfRange_10 : decode cX4_costOfRange 10 = .ok (.if_icmp .ge 35, 3) := by decide +kernel
theorem dX4_costOfRange_13 : decode cX4_costOfRange 13 = .ok (.iload 5, 2) := by decide +kernel
theorem dX4_costOfRange_15 : decode cX4_costOfRange 15 = .ok (.aload_n 0, 1) := by decide +kernel
theorem dX4_costOfRange_16 : decode cX4_costOfRange 16 = .ok (.getfield 28, 3) := by decide +kernel
theorem dX4_costOfRange_19 : decode cX4_costOfRange 19 = .ok (.iload_n 1, 1) := by decide +kernel
theorem dX4_costOfRange_20 : decode cX4_costOfRange 20 = .ok (.iload 6, 2) := by decide +kernel
theorem dX4_costOfRange_22 : decode cX4_costOfRange 22 = .ok (.iadd, 1) := by decide +kernel
theorem dX4_costOfRange_23 : decode cX4_costOfRange 23 = .ok (.iaload, 1) := by decide +kernel
theorem dX4_costOfRange_24 : decode cX4_costOfRange 24 = .ok (.aload_n 2, 1) := by decide +kernel
theorem dX4_costOfRange_25 : decode cX4_costOfRange 25 = .ok (.getfield 28, 3) := by decide +kernel
theorem dX4_costOfRange_28 : decode cX4_costOfRange 28 = .ok (.iload_n 3, 1) := by decide +kernel
theorem dX4_costOfRange_29 : decode cX4_costOfRange 29 = .ok (.iload 6, 2) := by decide +kernel
theorem dX4_costOfRange_31 : decode cX4_costOfRange 31 = .ok (.iadd, 1) := by decide +kernel
theorem dX4_costOfRange_32 : decode cX4_costOfRange 32 = .ok (.iaload, 1) := by decide +kernel
theorem dX4_costOfRange_33 : decode cX4_costOfRange 33 = .ok (.invokestatic 73, 3) := by decide +kernel
theorem dX4_costOfRange_36 : decode cX4_costOfRange 36 = .ok (.iadd, 1) := by decide +kernel
theorem dX4_costOfRange_37 : decode cX4_costOfRange 37 = .ok (.istore 5, 2) := by decide +kernel
theorem dX4_costOfRange_39 : decode cX4_costOfRange 39 = .ok (.iinc 6 1, 3) := by decide +kernel
theorem dX4_costOfRange_42 : decode cX4_costOfRange 42 = .ok (.goto (-36), 3) := by decide +kernel
theorem dX4_costOfRange_45 : decode cX4_costOfRange 45 = .ok (.iload 5, 2) := by decide +kernel
theorem dX4_costOfRange_47 : decode cX4_costOfRange 47 = .ok (.ireturn, 1) := by decide +kernel
theorem dX4_fuseInto_0 : decode cX4_fuseInto 0 = .ok (.iconst 0, 1) := by decide +kernel
theorem dX4_fuseInto_1 : decode cX4_fuseInto 1 = .ok (.istore 4, 2) := by decide +kernel
theorem dX4_fuseInto_3 : decode cX4_fuseInto 3 = .ok (.iload 4, 2) := by decide +kernel
theorem dX4_fuseInto_5 : decode cX4_fuseInto 5 = .ok (.iload_n 3, 1) := by decide +kernel
theorem dX4_fuseInto_6 : decode cX4_fuseInto 6 = .ok (.if_icmp .ge 39, 3) := by decide +kernel
theorem dX4_fuseInto_9 : decode cX4_fuseInto 9 = .ok (.aload_n 0, 1) := by decide +kernel
theorem dX4_fuseInto_10 : decode cX4_fuseInto 10 = .ok (.getfield 28, 3) := by decide +kernel
theorem dX4_fuseInto_13 : decode cX4_fuseInto 13 = .ok (.iload_n 1, 1) := by decide +kernel
theorem dX4_fuseInto_14 : decode cX4_fuseInto 14 = .ok (.iload 4, 2) := by decide +kernel
theorem dX4_fuseInto_16 : decode cX4_fuseInto 16 = .ok (.iadd, 1) := by decide +kernel
theorem dX4_fuseInto_17 : decode cX4_fuseInto 17 = .ok (.aload_n 0, 1) := by decide +kernel
theorem dX4_fuseInto_18 : decode cX4_fuseInto 18 = .ok (.getfield 28, 3) := by decide +kernel
theorem dX4_fuseInto_21 : decode cX4_fuseInto 21 = .ok (.iload_n 1, 1) := by decide +kernel
theorem dX4_fuseInto_22 : decode cX4_fuseInto 22 = .ok (.iload 4, 2) := by decide +kernel
theorem dX4_fuseInto_24 : decode cX4_fuseInto 24 = .ok (.iadd, 1) := by decide +kernel
theorem dX4_fuseInto_25 : decode cX4_fuseInto 25 = .ok (.iaload, 1) := by decide +kernel
theorem dX4_fuseInto_26 : decode cX4_fuseInto 26 = .ok (.aload_n 0, 1) := by decide +kernel
theorem dX4_fuseInto_27 : decode cX4_fuseInto 27 = .ok (.getfield 28, 3) := by decide +kernel
theorem dX4_fuseInto_30 : decode cX4_fuseInto 30 = .ok (.iload_n 2, 1) := by decide +kernel
theorem dX4_fuseInto_31 : decode cX4_fuseInto 31 = .ok (.iload 4, 2) := by decide +kernel
theorem dX4_fuseInto_33 : decode cX4_fuseInto 33 = .ok (.iadd, 1) := by decide +kernel
theorem dX4_fuseInto_34 : decode cX4_fuseInto 34 = .ok (.iaload, 1) := by decide +kernel
theorem dX4_fuseInto_35 : decode cX4_fuseInto 35 = .ok (.invokestatic 76, 3) := by decide +kernel
theorem dX4_fuseInto_38 : decode cX4_fuseInto 38 = .ok (.iastore, 1) := by decide +kernel
theorem dX4_fuseInto_39 : decode cX4_fuseInto 39 = .ok (.iinc 4 1, 3) := by decide +kernel
theorem dX4_fuseInto_42 : decode cX4_fuseInto 42 = .ok (.goto (-39), 3) := by decide +kernel
theorem dX4_fuseInto_45 : decode cX4_fuseInto 45 = .ok (.return_, 1) := by decide +kernel
theorem dX4_insert_0 : decode cX4_insert 0 = .ok (.aload_n 0, 1) := by decide +kernel
theorem dX4_insert_1 : decode cX4_insert 1 = .ok (.getfield 9, 3) := by decide +kernel
theorem dX4_insert_4 : decode cX4_insert 4 = .ok (.aload_n 0, 1) := by decide +kernel
theorem dX4_insert_5 : decode cX4_insert 5 = .ok (.getfield 28, 3) := by decide +kernel
theorem dX4_insert_8 : decode cX4_insert 8 = .ok (.arraylength, 1) := by decide +kernel
theorem dX4_insert_9 : decode cX4_insert 9 = .ok (.if_icmp .ge 44, 3) := by decide +kernel
theorem dX4_insert_12 : decode cX4_insert 12 = .ok (.aload_n 0, 1) := by decide +kernel
theorem dX4_insert_13 : decode cX4_insert 13 = .ok (.getfield 28, 3) := by decide +kernel
theorem dX4_insert_16 : decode cX4_insert 16 = .ok (.iload_n 1, 1) := by decide +kernel
theorem dX4_insert_17 : decode cX4_insert 17 = .ok (.aload_n 0, 1) := by decide +kernel
theorem dX4_insert_18 : decode cX4_insert 18 = .ok (.getfield 28, 3) := by decide +kernel
theorem dX4_insert_21 : decode cX4_insert 21 = .ok (.iload_n 1, 1) := by decide +kernel
theorem dX4_insert_22 : decode cX4_insert 22 = .ok (.iconst 1, 1) := by decide +kernel
theorem dX4_insert_23 : decode cX4_insert 23 = .ok (.iadd, 1) := by decide +kernel
theorem dX4_insert_24 : decode cX4_insert 24 = .ok (.aload_n 0, 1) := by decide +kernel
theorem dX4_insert_25 : decode cX4_insert 25 = .ok (.getfield 9, 3) := by decide +kernel
theorem dX4_insert_28 : decode cX4_insert 28 = .ok (.iload_n 1, 1) := by decide +kernel
theorem dX4_insert_29 : decode cX4_insert 29 = .ok (.isub, 1) := by decide +kernel
theorem dX4_insert_30 : decode cX4_insert 30 = .ok (.invokestatic 79, 3) := by decide +kernel
theorem dX4_insert_33 : decode cX4_insert 33 = .ok (.aload_n 0, 1) := by decide +kernel
theorem dX4_insert_34 : decode cX4_insert 34 = .ok (.getfield 28, 3) := by decide +kernel
theorem dX4_insert_37 : decode cX4_insert 37 = .ok (.iload_n 1, 1) := by decide +kernel
theorem dX4_insert_38 : decode cX4_insert 38 = .ok (.iload_n 2, 1) := by decide +kernel
theorem dX4_insert_39 : decode cX4_insert 39 = .ok (.iastore, 1) := by decide +kernel
theorem dX4_insert_40 : decode cX4_insert 40 = .ok (.aload_n 0, 1) := by decide +kernel
theorem dX4_insert_41 : decode cX4_insert 41 = .ok (.dup, 1) := by decide +kernel
theorem dX4_insert_42 : decode cX4_insert 42 = .ok (.getfield 9, 3) := by decide +kernel
theorem dX4_insert_45 : decode cX4_insert 45 = .ok (.iconst 1, 1) := by decide +kernel
theorem dX4_insert_46 : decode cX4_insert 46 = .ok (.iadd, 1) := by decide +kernel
theorem dX4_insert_47 : decode cX4_insert 47 = .ok (.putfield 9, 3) := by decide +kernel
theorem dX4_insert_50 : decode cX4_insert 50 = .ok (.goto 8, 3) := by decide +kernel
theorem dX4_insert_53 : decode cX4_insert 53 = .ok (.aload_n 0, 1) := by decide +kernel
theorem dX4_insert_54 : decode cX4_insert 54 = .ok (.iconst 1, 1) := by decide +kernel
theorem dX4_insert_55 : decode cX4_insert 55 = .ok (.putfield 18, 3) := by decide +kernel
theorem dX4_insert_58 : decode cX4_insert 58 = .ok (.return_, 1) := by decide +kernel
theorem dX4_matches_0 : decode cX4_matches 0 = .ok (.iload_n 1, 1) := by decide +kernel
theorem dX4_matches_1 : decode cX4_matches 1 = .ok (.ifCond .lt 29, 3) := by decide +kernel
theorem dX4_matches_4 : decode cX4_matches 4 = .ok (.iload_n 3, 1) := by decide +kernel
theorem dX4_matches_5 : decode cX4_matches 5 = .ok (.ifCond .lt 25, 3) := by decide +kernel
theorem dX4_matches_8 : decode cX4_matches 8 = .ok (.iload_n 1, 1) := by decide +kernel
theorem dX4_matches_9 : decode cX4_matches 9 = .ok (.iload 4, 2) := by decide +kernel
theorem dX4_matches_11 : decode cX4_matches 11 = .ok (.iadd, 1) := by decide +kernel
theorem dX4_matches_12 : decode cX4_matches 12 = .ok (.aload_n 0, 1) := by decide +kernel
theorem dX4_matches_13 : decode cX4_matches 13 = .ok (.getfield 9, 3) := by decide +kernel
theorem dX4_matches_16 : decode cX4_matches 16 = .ok (.if_icmp .gt 14, 3) := by decide +kernel
theorem dX4_matches_19 : decode cX4_matches 19 = .ok (.iload_n 3, 1) := by decide +kernel
theorem dX4_matches_20 : decode cX4_matches 20 = .ok (.iload 4, 2) := by decide +kernel
theorem dX4_matches_22 : decode cX4_matches 22 = .ok (.iadd, 1) := by decide +kernel
theorem dX4_matches_23 : decode cX4_matches 23 = .ok (.aload_n 2, 1) := by decide +kernel
theorem dX4_matches_24 : decode cX4_matches 24 = .ok (.getfield 9, 3) := by decide +kernel
theorem dX4_matches_27 : decode cX4_matches 27 = .ok (.if_icmp .le 5, 3) := by decide +kernel
theorem dX4_matches_30 : decode cX4_matches 30 = .ok (.iconst 0, 1) := by decide +kernel
theorem dX4_matches_31 : decode cX4_matches 31 = .ok (.ireturn, 1) := by decide +kernel
theorem dX4_matches_32 : decode cX4_matches 32 = .ok (.iconst 0, 1) := by decide +kernel
theorem dX4_matches_33 : decode cX4_matches 33 = .ok (.istore 5, 2) := by decide +kernel
theorem dX4_matches_35 : decode cX4_matches 35 = .ok (.iload 5, 2) := by decide +kernel
theorem dX4_matches_37 : decode cX4_matches 37 = .ok (.iload 4, 2) := by decide +kernel
theorem dX4_matches_39 : decode cX4_matches 39 = .ok (.if_icmp .ge 35, 3) := by decide +kernel
theorem dX4_matches_42 : decode cX4_matches 42 = .ok (.aload_n 0, 1) := by decide +kernel
theorem dX4_matches_43 : decode cX4_matches 43 = .ok (.getfield 28, 3) := by decide +kernel
theorem dX4_matches_46 : decode cX4_matches 46 = .ok (.iload_n 1, 1) := by decide +kernel
theorem dX4_matches_47 : decode cX4_matches 47 = .ok (.iload 5, 2) := by decide +kernel
theorem dX4_matches_49 : decode cX4_matches 49 = .ok (.iadd, 1) := by decide +kernel
theorem dX4_matches_50 : decode cX4_matches 50 = .ok (.iaload, 1) := by decide +kernel
theorem dX4_matches_51 : decode cX4_matches 51 = .ok (.aload_n 2, 1) := by decide +kernel
theorem dX4_matches_52 : decode cX4_matches 52 = .ok (.getfield 28, 3) := by decide +kernel
theorem dX4_matches_55 : decode cX4_matches 55 = .ok (.iload_n 3, 1) := by decide +kernel
theorem dX4_matches_56 : decode cX4_matches 56 = .ok (.iload 5, 2) := by decide +kernel
theorem dX4_matches_58 : decode cX4_matches 58 = .ok (.iadd, 1) := by decide +kernel
theorem dX4_matches_59 : decode cX4_matches 59 = .ok (.iaload, 1) := by decide +kernel
theorem dX4_matches_60 : decode cX4_matches 60 = .ok (.invokestatic 69, 3) := by decide +kernel
theorem dX4_matches_63 : decode cX4_matches 63 = .ok (.ifCond .ne 5, 3) := by decide +kernel
theorem dX4_matches_66 : decode cX4_matches 66 = .ok (.iconst 0, 1) := by decide +kernel
theorem dX4_matches_67 : decode cX4_matches 67 = .ok (.ireturn, 1) := by decide +kernel
theorem dX4_matches_68 : decode cX4_matches 68 = .ok (.iinc 5 1, 3) := by decide +kernel
theorem dX4_matches_71 : decode cX4_matches 71 = .ok (.goto (-36), 3) := by decide +kernel
theorem dX4_matches_74 : decode cX4_matches 74 = .ok (.iconst 1, 1) := by decide +kernel
theorem dX4_matches_75 : decode cX4_matches 75 = .ok (.ireturn, 1) := by decide +kernel
theorem dX4_remove_0 : decode cX4_remove 0 = .ok (.aload_n 0, 1) := by decide +kernel
theorem dX4_remove_1 : decode cX4_remove 1 = .ok (.getfield 28, 3) := by decide +kernel
theorem dX4_remove_4 : decode cX4_remove 4 = .ok (.iload_n 2, 1) := by decide +kernel
theorem dX4_remove_5 : decode cX4_remove 5 = .ok (.aload_n 0, 1) := by decide +kernel
theorem dX4_remove_6 : decode cX4_remove 6 = .ok (.getfield 28, 3) := by decide +kernel
theorem dX4_remove_9 : decode cX4_remove 9 = .ok (.iload_n 1, 1) := by decide +kernel
theorem dX4_remove_10 : decode cX4_remove 10 = .ok (.aload_n 0, 1) := by decide +kernel
theorem dX4_remove_11 : decode cX4_remove 11 = .ok (.getfield 9, 3) := by decide +kernel
theorem dX4_remove_14 : decode cX4_remove 14 = .ok (.iload_n 2, 1) := by decide +kernel
theorem dX4_remove_15 : decode cX4_remove 15 = .ok (.isub, 1) := by decide +kernel
theorem dX4_remove_16 : decode cX4_remove 16 = .ok (.invokestatic 79, 3) := by decide +kernel
theorem dX4_remove_19 : decode cX4_remove 19 = .ok (.aload_n 0, 1) := by decide +kernel
theorem dX4_remove_20 : decode cX4_remove 20 = .ok (.dup, 1) := by decide +kernel
theorem dX4_remove_21 : decode cX4_remove 21 = .ok (.getfield 9, 3) := by decide +kernel
theorem dX4_remove_24 : decode cX4_remove 24 = .ok (.iload_n 2, 1) := by decide +kernel
theorem dX4_remove_25 : decode cX4_remove 25 = .ok (.iload_n 1, 1) := by decide +kernel
theorem dX4_remove_26 : decode cX4_remove 26 = .ok (.isub, 1) := by decide +kernel
theorem dX4_remove_27 : decode cX4_remove 27 = .ok (.isub, 1) := by decide +kernel
theorem dX4_remove_28 : decode cX4_remove 28 = .ok (.putfield 9, 3) := by decide +kernel
theorem dX4_remove_31 : decode cX4_remove 31 = .ok (.return_, 1) := by decide +kernel
/-! stretches of a row: compared, fused, counted, copied -/
def sgA (μ : va_M) (k : Nat) : Prop := ∀ i : Nat, 0 ≤ μ k i ∧ μ k i ≤ 515
def sAl (a b : Int) : Prop := a = b ∨ ((256 ≤ a ∧ a ≤ 512) ∧ (256 ≤ b ∧ b ≤ 512))
def sFu (a b : Int) : Int := if a = b then a else 512
def sCo (a b : Int) : Int := if a ≠ b ∧ (256 ≤ a ∧ a < 512) ∧ (256 ≤ b ∧ b < 512) then 1 else 0
theorem if_al {r a b : Int} (h : r = if a = b ∨ ((256 ≤ a ∧ a ≤ 512) ∧ (256 ≤ b ∧ b ≤ 512)) then 1 else 0) : (r = 1 ∧ sAl a b) ∨ (r = 0 ∧ ¬ sAl a b) := by
  unfold sAl
  split at h
  · exact Or.inl ⟨h, by assumption⟩
  · exact Or.inr ⟨h, by assumption⟩
theorem sCo_01 (a b : Int) : 0 ≤ sCo a b ∧ sCo a b ≤ 1 := by unfold sCo; split <;> omega
theorem sFu_b {a b : Int} (h : 0 ≤ a ∧ a ≤ 515) : 0 ≤ sFu a b ∧ sFu a b ≤ 515 := by unfold sFu; split <;> omega
theorem sgA_R {μ : va_M} {k : Nat} (h : sgA μ k) (i : Nat) : inR (μ k i) := by have := h i; constructor <;> omega
def sMat (μ : va_M) (k : Nat) (p1 n1 : Int) (k2 : Nat) (p2 n2 n : Int) : Prop := (0 ≤ p1 ∧ 0 ≤ p2 ∧ p1 + n ≤ n1 ∧ p2 + n ≤ n2) ∧ ∀ t : Nat, (t : Int) < n → sAl (μ k (p1.toNat + t)) (μ k2 (p2.toNat + t))
def cRng (μ : va_M) (k p k2 p2 : Nat) : Nat → Int
  | 0 => 0
  | n + 1 => cRng μ k p k2 p2 n + sCo (μ k (p + n)) (μ k2 (p2 + n))
theorem cRng_b (μ : va_M) (k p k2 p2 : Nat) : ∀ n : Nat, 0 ≤ cRng μ k p k2 p2 n ∧ cRng μ k p k2 p2 n ≤ n
  | 0 => ⟨Int.le_refl _, Int.le_refl _⟩
  | n + 1 => by
    have := cRng_b μ k p k2 p2 n
    have := sCo_01 (μ k (p + n)) (μ k2 (p2 + n))
    rw [cRng]
    omega
def nOf (μ : va_M) (k : Nat) (sg : Int) : Nat → Int
  | 0 => 0
  | n + 1 => nOf μ k sg n + (if μ k n = sg then 1 else 0)
theorem nOf_b (μ : va_M) (k : Nat) (sg : Int) : ∀ n : Nat, 0 ≤ nOf μ k sg n ∧ nOf μ k sg n ≤ n
  | 0 => ⟨Int.le_refl _, Int.le_refl _⟩
  | n + 1 => by
    have := nOf_b μ k sg n
    rw [nOf]
    split <;> omega
set_option maxHeartbeats 4000000 in
set_option maxRecDepth 100000 in
theorem LX4_matches_35 {p : Program} {l : Launch} {e : Env} {R : Room} {s : State} {m : MethodId} {args : Array Value} {below : List Frame} {meth : Method} {c : Code} {cells slots : Nat} {Q : State → Prop} {dC : Nat → ClassId} {dI : Nat → Nat → Nat} {h0 : Nat} {cI cZ cII cIII : ClassId} (hx : p.tables.exec = Jvm.exec) (hb : c.code = cX4_matches) (hml : c.maxLocals = 6) (hown : s.vm.findClass RX4 = some m.cls) (hts : ∀ w ∈ wsG, w.before args s = true) (hK : va_K (dC, dI) vwCl (sT cI cZ cII cIII) s) (hM : xM s) (hRf : 2 ≤ R.frames) (hRl : 35 ≤ R.locals) (hRc : cells ≤ R.cells) (hRs : slots ≤ R.slots) (μ0 : va_M) (q : Nat) (rm : Nat) (q2 : Nat) (rm2 : Nat) (p1 : Int) (p2 : Int) (n : Int) (hq : rowB q rm) (hq2 : rowB q2 rm2) (hsg : sgA μ0 (q + 1)) (hsg2 : sgA μ0 (q2 + 1)) (hlen : 0 ≤ μ0 q 5 ∧ μ0 q 5 ≤ rm) (hlen2 : 0 ≤ μ0 q2 5 ∧ μ0 q2 5 ≤ rm2) (hn : n ≤ 2000) (hn2 : -2000 ≤ n) (hb1 : 0 ≤ p1 ∧ p1 + n ≤ μ0 q 5) (hb2 : 0 ≤ p2 ∧ p2 + n ≤ μ0 q2 5) (hexit66 : ∀ (i : Int) (μ : va_M) (H : Heap) (locs : List Loc) (ls : Array Slot), (μ = μ0) → (¬ ∀ t : Nat, (t : Int) < n → sAl (μ0 (q + 1) (p1.toNat + t)) (μ0 (q2 + 1) (p2.toNat + t))) → va_P (dC, dI) vwCl (fw (sE cI cZ cII cIII h0) h0 233 μ) H → va_S (fA h0 233 s.heap.size) s.heap H locs → lv_has ls 6 [(4, .int (iZ (n))), (3, .int (iZ (p2))), (2, .ref (h0 + q2)), (1, .int (iZ (p1))), (0, .ref (h0 + q))] → W p l e R s m args below meth c H locs cells slots Q (F0 m 66 ls [])) (hexit74 : ∀ (i : Int) (μ : va_M) (H : Heap) (locs : List Loc) (ls : Array Slot), (μ = μ0) → (∀ t : Nat, (t : Int) < n → sAl (μ0 (q + 1) (p1.toNat + t)) (μ0 (q2 + 1) (p2.toNat + t))) → va_P (dC, dI) vwCl (fw (sE cI cZ cII cIII h0) h0 233 μ) H → va_S (fA h0 233 s.heap.size) s.heap H locs → lv_has ls 6 [(4, .int (iZ (n))), (3, .int (iZ (p2))), (2, .ref (h0 + q2)), (1, .int (iZ (p1))), (0, .ref (h0 + q))] → W p l e R s m args below meth c H locs cells slots Q (F0 m 74 ls [])) :
    ∀ (n9 : Nat) (i : Int) (μ : va_M) (H : Heap) (locs : List Loc) (ls : Array Slot), (μ = μ0) → (0 ≤ i ∧ (i ≤ n ∨ i = 0)) → (∀ t : Nat, (t : Int) < i → sAl (μ0 (q + 1) (p1.toNat + t)) (μ0 (q2 + 1) (p2.toNat + t))) → (2001 - i).toNat < n9 → va_P (dC, dI) vwCl (fw (sE cI cZ cII cIII h0) h0 233 μ) H → va_S (fA h0 233 s.heap.size) s.heap H locs → lv_has ls 6 [(5, .int (iZ (i))), (4, .int (iZ (n))), (3, .int (iZ (p2))), (2, .ref (h0 + q2)), (1, .int (iZ (p1))), (0, .ref (h0 + q))] → W p l e R s m args below meth c H locs cells slots Q (F0 m 35 ls []) := by
  intro n9
  induction n9 with
  | zero => intro i μ H locs ls hm9_ hi hal hm9 hP hS hl; exact absurd hm9 (Nat.not_lt_zero _)
  | succ n9 ih =>
    intro i μ H locs ls hm9_ hi hal hm9 hP hS hl
    subst hm9_
    have hqb := rowB_b hq
    have hqb2 := rowB_b hq2
    refine lv_iload hx hb dX4_matches_35 (lv_at hl 0 rfl) ?_
    refine lv_iload hx hb dX4_matches_37 (lv_at hl 1 rfl) ?_
    refine fz_icmp_ge (tgt := 74) (by constructor <;> (first | ((try clear hm9); (try clear hal); (try clear hm9_); (try clear hexit74); (try clear hexit66); (try clear hb1); (try clear hn2); (try clear hn); (try clear hlen); (try clear hRs); (try clear hRc); (try clear hRl); (try clear hRf); omega) | omega)) (by constructor <;> (first | ((try clear hqb2); (try clear hqb); (try clear hm9); (try clear hal); (try clear hi); (try clear hm9_); (try clear hexit74); (try clear hexit66); (try clear hb2); (try clear hb1); (try clear hlen2); (try clear hlen); (try clear hRs); (try clear hRc); (try clear hRl); (try clear hRf); omega) | omega)) hx hb dX4_matches_39 (by decide) (fun c39_ => ?_) (fun c39_ => ?_)
    · exact hexit74 (i) μ H locs ls (by rfl) (by intro t ht; exact hal t (by (first | ((try clear hqb2); (try clear hqb); (try clear hm9); (try clear hal); (try clear hi); (try clear hm9_); (try clear hexit74); (try clear hexit66); (try clear hb2); (try clear hb1); (try clear hn2); (try clear hn); (try clear hlen2); (try clear hlen); (try clear hRs); (try clear hRc); (try clear hRl); (try clear hRf); omega) | omega))) hP hS (lv_sub hl [1, 2, 3, 4, 5] rfl)
    · refine lv_aload_n hx hb dX4_matches_42 rfl (lv_at hl 5 rfl) ?_
      refine fz_get (D := (dC, dI)) (ci := 4) (v := .ref (h0 + (q + 1))) (C := RX4) (T := TX4) (N := 8) hx hb hts inG4 hown hK hP (k := q) (by (first | ((try clear c39_); (try clear hqb2); (try clear hm9); (try clear hal); (try clear hi); (try clear hm9_); (try clear hexit74); (try clear hexit66); (try clear hb2); (try clear hb1); (try clear hn2); (try clear hn); (try clear hlen2); (try clear hlen); (try clear hRs); (try clear hRc); (try clear hRl); (try clear hRf); omega) | omega)) (F := (sRF h0 q)) (sE_rowO hq) rfl 0 (by decide) (hts _ k77) (fun _ h9 => h9) rfl dX4_matches_43 ?_
      refine lv_iload_n hx hb dX4_matches_46 rfl (lv_at hl 4 rfl) ?_
      refine lv_iload hx hb dX4_matches_47 (lv_at hl 0 rfl) ?_
      refine lv_iadd hx hb dX4_matches_49 ?_
      refine lv_topi (fun x9 ex9 => ?_)
      obtain rfl : x9 = iZ (p1 + i) := ex9.trans (iZ_add _ _)
      refine fz_ld (k := (q + 1)) (n := rm) hx hb hK hP 0 (by (first | ((try clear ex9); (try clear c39_); (try clear hqb2); (try clear hm9); (try clear hal); (try clear hi); (try clear hm9_); (try clear hexit74); (try clear hexit66); (try clear hb2); (try clear hb1); (try clear hn2); (try clear hn); (try clear hlen2); (try clear hlen); (try clear hRs); (try clear hRc); (try clear hRl); (try clear hRf); omega) | omega)) (sE_rowA (r := 1) hq (by decide)) rfl ⟨by (first | ((try clear ex9); (try clear hqb2); (try clear hqb); (try clear hm9); (try clear hal); (try clear hm9_); (try clear hexit74); (try clear hexit66); (try clear hb2); (try clear hlen2); (try clear hlen); (try clear hRs); (try clear hRc); (try clear hRl); (try clear hRf); omega) | omega), by (first | ((try clear ex9); (try clear hqb2); (try clear hqb); (try clear hm9); (try clear hal); (try clear hi); (try clear hm9_); (try clear hexit74); (try clear hexit66); (try clear hb2); (try clear hn2); (try clear hn); (try clear hlen2); (try clear hRs); (try clear hRc); (try clear hRl); (try clear hRf); omega) | omega)⟩ (by (first | ((try clear ex9); (try clear c39_); (try clear hm9); (try clear hal); (try clear hi); (try clear hm9_); (try clear hexit74); (try clear hexit66); (try clear hb2); (try clear hb1); (try clear hn2); (try clear hn); (try clear hlen2); (try clear hlen); (try clear hRs); (try clear hRc); (try clear hRl); (try clear hRf); omega) | omega)) dX4_matches_50 ?_
      refine lv_aload_n hx hb dX4_matches_51 rfl (lv_at hl 3 rfl) ?_
      refine fz_get (D := (dC, dI)) (ci := 4) (v := .ref (h0 + (q2 + 1))) (C := RX4) (T := TX4) (N := 8) hx hb hts inG4 hown hK hP (k := q2) (by (first | ((try clear ex9); (try clear c39_); (try clear hqb); (try clear hm9); (try clear hal); (try clear hi); (try clear hm9_); (try clear hexit74); (try clear hexit66); (try clear hb2); (try clear hb1); (try clear hn2); (try clear hn); (try clear hlen2); (try clear hlen); (try clear hRs); (try clear hRc); (try clear hRl); (try clear hRf); omega) | omega)) (F := (sRF h0 q2)) (sE_rowO hq2) rfl 0 (by decide) (hts _ k77) (fun _ h9 => h9) rfl dX4_matches_52 ?_
      refine lv_iload_n hx hb dX4_matches_55 rfl (lv_at hl 2 rfl) ?_
      refine lv_iload hx hb dX4_matches_56 (lv_at hl 0 rfl) ?_
      refine lv_iadd hx hb dX4_matches_58 ?_
      refine lv_topi (fun x9 ex9 => ?_)
      obtain rfl : x9 = iZ (p2 + i) := ex9.trans (iZ_add _ _)
      refine fz_ld (k := (q2 + 1)) (n := rm2) hx hb hK hP 0 (by (first | ((try clear ex9); (try clear c39_); (try clear hqb); (try clear hm9); (try clear hal); (try clear hi); (try clear hm9_); (try clear hexit74); (try clear hexit66); (try clear hb2); (try clear hb1); (try clear hn2); (try clear hn); (try clear hlen2); (try clear hlen); (try clear hRs); (try clear hRc); (try clear hRl); (try clear hRf); omega) | omega)) (sE_rowA (r := 1) hq2 (by decide)) rfl ⟨by (first | ((try clear ex9); (try clear hqb2); (try clear hqb); (try clear hm9); (try clear hal); (try clear hm9_); (try clear hexit74); (try clear hexit66); (try clear hb1); (try clear hlen2); (try clear hlen); (try clear hRs); (try clear hRc); (try clear hRl); (try clear hRf); omega) | omega), by (first | ((try clear ex9); (try clear hqb2); (try clear hqb); (try clear hm9); (try clear hal); (try clear hi); (try clear hm9_); (try clear hexit74); (try clear hexit66); (try clear hb1); (try clear hn2); (try clear hn); (try clear hlen); (try clear hRs); (try clear hRc); (try clear hRl); (try clear hRf); omega) | omega)⟩ (by (first | ((try clear ex9); (try clear c39_); (try clear hqb); (try clear hm9); (try clear hal); (try clear hi); (try clear hm9_); (try clear hexit74); (try clear hexit66); (try clear hb2); (try clear hb1); (try clear hn2); (try clear hn); (try clear hlen2); (try clear hlen); (try clear hRs); (try clear hRc); (try clear hRl); (try clear hRf); omega) | omega)) dX4_matches_59 ?_
      refine va_calli (va_runSN (As := [.int (iZ (μ (q + 1) (p1 + i).toNat)), .int (iZ (μ (q2 + 1) (p2 + i).toNat))]) (rest := []) ⟨hx, hb, hml, hown, hts⟩ (s_areAlike l dC dI cI cZ cII cIII h0 H.size μ (μ (q + 1) (p1 + i).toNat) (μ (q2 + 1) (p2 + i).toNat) (by exact sgA_R hsg _) (by exact sgA_R hsg2 _)) ⟨va_cnB (host := "PageSkeleton") 2 hts (gI_G k447) rfl rfl rfl (xM_nest hM 9 rfl) (hts _ k1) (by decide +kernel) ⟨by show 1 + 1 ≤ _; (first | ((try clear ex9); (try clear c39_); (try clear hqb2); (try clear hqb); (try clear hm9); (try clear hal); (try clear hi); (try clear hm9_); (try clear hexit74); (try clear hexit66); (try clear hb2); (try clear hb1); (try clear hn2); (try clear hn); (try clear hlen2); (try clear hlen); (try clear hRs); (try clear hRc); (try clear hRl); omega) | omega), by show 8 + (2 + 11) + (14) ≤ _; (first | ((try clear ex9); (try clear c39_); (try clear hqb2); (try clear hqb); (try clear hm9); (try clear hal); (try clear hi); (try clear hm9_); (try clear hexit74); (try clear hexit66); (try clear hb2); (try clear hb1); (try clear hn2); (try clear hn); (try clear hlen2); (try clear hlen); (try clear hRs); (try clear hRc); (try clear hRf); omega) | omega)⟩, hts _ k446, trivial⟩ ⟨fun a U g mk q => by obtain ⟨q0, q1, qP, qK, qM⟩ := q; exact ⟨q0, q1, qP, va_K.moved (u := U) (U := U.calling g mk a) (Vm.Alike.refl U.vm) qK, qM⟩, fun U hU hW => ⟨rfl, by rw [hU], by rw [hU]; exact hP, va_K.moved hW.alike hK, xM_warm hW hM⟩⟩ rfl rfl hl.1 rfl (lv_room (Nat.le_of_ble_eq_true rfl)) dX4_matches_60 ⟨hRc, hRs⟩) hS (fun q _ h => fA_le hS.1 q h) (fA_le hS.1) (fun r9 u9 t9 H1 locs ht9 hvm9 hw9 hB9 hz9 hk9 hS => ?_)
      obtain ⟨μq, rq⟩ := u9
      obtain ⟨hP, -⟩ := hB9
      rw [ht9] at hP
      generalize H1 = H at hP hS ⊢
      obtain ⟨e9, hw9⟩ := hw9
      have e9 : r9 = iZ rq := e9
      subst e9
      simp only at hP hw9
      have hμq := hw9; clear hw9
      rw [hμq.1] at hP; have hμq := hμq.2
      have hrq := if_al hμq
      rw [show (p1 + i).toNat = p1.toNat + i.toNat by (first | ((try clear hrq); (try clear hμq); (try clear μq); (try clear hz9); (try clear ex9); (try clear c39_); (try clear hqb2); (try clear hqb); (try clear hm9); (try clear hal); (try clear hm9_); (try clear hexit74); (try clear hexit66); (try clear hb2); (try clear hn2); (try clear hn); (try clear hlen2); (try clear hlen); (try clear hRs); (try clear hRc); (try clear hRl); (try clear hRf); omega) | omega), show (p2 + i).toNat = p2.toNat + i.toNat by (first | ((try clear hrq); (try clear hμq); (try clear μq); (try clear hz9); (try clear ex9); (try clear c39_); (try clear hqb2); (try clear hqb); (try clear hm9); (try clear hal); (try clear hm9_); (try clear hexit74); (try clear hexit66); (try clear hb1); (try clear hn2); (try clear hn); (try clear hlen2); (try clear hlen); (try clear hRs); (try clear hRc); (try clear hRl); (try clear hRf); omega) | omega)] at hrq
      have hr01 : rq = 0 ∨ rq = 1 := hrq.elim (fun h => Or.inr h.1) (fun h => Or.inl h.1)
      refine fz_if_ne (tgt := 68) (by constructor <;> (first | ((try clear hrq); (try clear hμq); (try clear hz9); (try clear ex9); (try clear c39_); (try clear hqb2); (try clear hqb); (try clear hm9); (try clear hal); (try clear hi); (try clear hm9_); (try clear hexit74); (try clear hexit66); (try clear hb2); (try clear hb1); (try clear hn2); (try clear hn); (try clear hlen2); (try clear hlen); (try clear hRs); (try clear hRc); (try clear hRl); (try clear hRf); omega) | omega)) hx hb dX4_matches_63 (by decide) (fun c63_ => ?_) (fun c63_ => ?_)
      · have hal9 : sAl (μ (q + 1) (p1.toNat + i.toNat)) (μ (q2 + 1) (p2.toNat + i.toNat)) := hrq.elim (fun h => h.2) (fun h => absurd h.1 (by (first | ((try clear h); (try clear hr01); (try clear hrq); (try clear hμq); (try clear rq); (try clear μq); (try clear hz9); (try clear ex9); (try clear c39_); (try clear hqb2); (try clear hqb); (try clear hm9); (try clear hal); (try clear hi); (try clear hm9_); (try clear hexit74); (try clear hexit66); (try clear hb2); (try clear hb1); (try clear hn2); (try clear hn); (try clear hlen2); (try clear hlen); (try clear hRs); (try clear hRc); (try clear hRl); (try clear hRf); omega) | omega)))
        refine lv_iinc (v := iZ (i + 1)) (lv' := [(5, .int (iZ (i + 1))), (4, .int (iZ (n))), (3, .int (iZ (p2))), (2, .ref (h0 + q2)), (1, .int (iZ (p1))), (0, .ref (h0 + q))]) hx hb dX4_matches_68 hl (k := 0) rfl (iZ_add _ _) (by decide) rfl (fun ls hl => ?_)
        refine lv_goto (tgt := 35) hx hb dX4_matches_71 (by decide) ?_
        exact ih (i + 1) μ H locs ls (by rfl) (by (first | ((try clear c63_); (try clear hr01); (try clear hrq); (try clear hμq); (try clear μq); (try clear hz9); (try clear ex9); (try clear hqb2); (try clear hqb); (try clear hm9); (try clear hal); (try clear hm9_); (try clear hexit74); (try clear hexit66); (try clear hb2); (try clear hb1); (try clear hn2); (try clear hn); (try clear hlen2); (try clear hlen); (try clear hRs); (try clear hRc); (try clear hRl); (try clear hRf); omega) | omega)) (by
                        intro t ht
                        by_cases h9 : t = i.toNat
                        · rw [h9]; exact hal9
                        · exact hal t (by (first | ((try clear c63_); (try clear hr01); (try clear hrq); (try clear hμq); (try clear μq); (try clear hz9); (try clear ex9); (try clear c39_); (try clear hqb2); (try clear hqb); (try clear hm9); (try clear hal); (try clear hm9_); (try clear hexit74); (try clear hexit66); (try clear hb2); (try clear hb1); (try clear hn2); (try clear hn); (try clear hlen2); (try clear hlen); (try clear hRs); (try clear hRc); (try clear hRl); (try clear hRf); omega) | omega))) (by (first | ((try clear h9); (try clear ht); (try clear hμq); (try clear hz9); (try clear ex9); (try clear hal); (try clear hm9_); (try clear hexit74); (try clear hexit66); (try clear hb2); (try clear hb1); (try clear hlen2); (try clear hlen); (try clear hRs); (try clear hRc); (try clear hRl); (try clear hRf); omega) | omega)) hP hS (lv_sub hl [0, 1, 2, 3, 4, 5] rfl)
      · have hal9 : ¬ sAl (μ (q + 1) (p1.toNat + i.toNat)) (μ (q2 + 1) (p2.toNat + i.toNat)) := hrq.elim (fun h => absurd h.1 (by (first | ((try clear hal9); (try clear hr01); (try clear hrq); (try clear hμq); (try clear hz9); (try clear ex9); (try clear c39_); (try clear hqb2); (try clear hqb); (try clear hm9); (try clear hal); (try clear hi); (try clear hm9_); (try clear hexit74); (try clear hexit66); (try clear hb2); (try clear hb1); (try clear hn2); (try clear hn); (try clear hlen2); (try clear hlen); (try clear hRs); (try clear hRc); (try clear hRl); (try clear hRf); omega) | omega))) (fun h => h.2)
        exact hexit66 (i) μ H locs ls (by rfl) (by intro h8; exact hal9 (h8 i.toNat (by (first | ((try clear h8); (try clear hal9); (try clear c63_); (try clear hr01); (try clear hrq); (try clear hμq); (try clear μq); (try clear hz9); (try clear ex9); (try clear hqb2); (try clear hqb); (try clear hm9); (try clear hal); (try clear hm9_); (try clear hexit74); (try clear hexit66); (try clear hb2); (try clear hb1); (try clear hn2); (try clear hn); (try clear hlen2); (try clear hlen); (try clear hRs); (try clear hRc); (try clear hRl); (try clear hRf); omega) | omega)))) hP hS (lv_sub hl [1, 2, 3, 4, 5] rfl)
set_option maxHeartbeats 4000000 in
set_option maxRecDepth 100000 in
theorem s_Rmatches (l : Launch) (dC : Nat → ClassId) (dI : Nat → Nat → Nat) (cI cZ cII cIII : ClassId) (h0 sz : Nat) (μ : va_M) (q : Nat) (rm : Nat) (q2 : Nat) (rm2 : Nat) (p1 : Int) (p2 : Int) (n : Int) (hq : rowB q rm) (hq2 : rowB q2 rm2) (hsg : sgA μ (q + 1)) (hsg2 : sgA μ (q2 + 1)) (hlen : 0 ≤ μ q 5 ∧ μ q 5 ≤ rm) (hlen2 : 0 ≤ μ q2 5 ∧ μ q2 5 ≤ rm2) (hp1 : -2000 ≤ p1 ∧ p1 ≤ 2000) (hp2 : -2000 ≤ p2 ∧ p2 ≤ 2000) (hn : n ≤ 2000) (hn2 : -2000 ≤ n) : Met l yX4_matches (Cond.code yX4_matches cX4_matches 6 (some .boolean) :: wsG) ({ frames := 2, cells := 0, slots := 0, locals := 35 } : Room) (va_Pc [.ref (h0 + q), .int (iZ (p1)), .ref (h0 + q2), .int (iZ (p2)), .int (iZ (n))] (fun U => U.heap.size = sz ∧ va_P (dC, dI) vwCl (fw (sE cI cZ cII cIII h0) h0 233 μ) U.heap ∧ va_K (dC, dI) vwCl (sT cI cZ cII cIII) U ∧ xM U)) (va_Qi (fun (r9 : Int32) (u : va_M × Int) => r9 = iZ u.2 ∧ (fun (u : va_M) (r : Int) => u = μ ∧ ((r = 1 ∧ sMat μ (q + 1) p1 (μ q 5) (q2 + 1) p2 (μ q2 5) n) ∨ (r = 0 ∧ ¬ sMat μ (q + 1) p1 (μ q 5) (q2 + 1) p2 (μ q2 5) n))) u.1 u.2) (fun u t => va_P (dC, dI) vwCl (fw (sE cI cZ cII cIII h0) h0 233 u.1) t.heap ∧ va_K (dC, dI) vwCl (sT cI cZ cII cIII) t) (fA h0 233 sz)) 0 0 (fA h0 233 sz) := by
  refine Met.ofW (cc := cX4_matches) (maxL := 6) (ret := (some .boolean)) (by decide) rfl ?_
  intro p e s m args below meth c s₁ B hml hv
  obtain ⟨rfl, hsz, hP, hK, hM⟩ := hv
  have hx := B.exec
  have hb := B.bytes
  have hr := B.returns
  have hts : ∀ w ∈ wsG, w.before _ s = true := hG_of (atoms_spec (ws := (Cond.code yX4_matches cX4_matches 6 (some .boolean) :: wsG)) B.pre)
  have hown : s.vm.findClass RX4 = some m.cls := findClass_of_methodNamed B.named
  have hlocks := B.notSynchronized
  subst hsz
  have hS : va_S (fA h0 233 s.heap.size) s.heap s.heap [] := va_S.rf
  have hl := lv_entry ([.ref (h0 + q), .int (iZ (p1)), .ref (h0 + q2), .int (iZ (p2)), .int (iZ (n))]) (n := 6) (Nat.le_of_ble_eq_true rfl)
  rw [lg_entry_eq]
  generalize (lg_sl ([.ref (h0 + q), .int (iZ (p1)), .ref (h0 + q2), .int (iZ (p2)), .int (iZ (n))]) ++ List.replicate (6 - (lg_sl ([.ref (h0 + q), .int (iZ (p1)), .ref (h0 + q2), .int (iZ (p2)), .int (iZ (n))])).length) Slot.unset).toArray = ls at hl ⊢
  have hl : lv_has ls 6 [(0, .ref (h0 + q)), (1, .int (iZ (p1))), (2, .ref (h0 + q2)), (3, .int (iZ (p2))), (4, .int (iZ (n)))] := hl
  have hqb := rowB_b hq
  have hqb2 := rowB_b hq2
  refine lv_iload_n hx hb dX4_matches_0 rfl (lv_at hl 1 rfl) ?_
  refine fz_if_lt (tgt := 30) (by constructor <;> (first | ((try clear hqb2); (try clear hqb); (try clear hsz); (try clear s₁); (try clear hn2); (try clear hn); (try clear hp2); (try clear hlen2); (try clear hlen); omega) | omega)) hx hb dX4_matches_1 (by decide) (fun c1_ => ?_) (fun c1_ => ?_)
  · refine lv_iconst (v := iZ 0) hx hb dX4_matches_30 rfl ?_
    exact W.zret (v := iZ (0)) hx hb hr (by decide +kernel) (fun t9 ht9 hW9 => ⟨⟨iZ (0), (μ, 0), rfl, ⟨rfl, (by
                dsimp only
                exact ⟨rfl, Or.inr ⟨rfl, fun h9 => absurd h9.1 (by (first | ((try clear h9); (try clear hqb2); (try clear hqb); (try clear hsz); (try clear s₁); (try clear hn2); (try clear hn); (try clear hp2); (try clear hlen2); (try clear hlen); omega) | omega))⟩⟩)⟩, by rw [ht9]; exact hP, va_K.moved hW9.alike hK⟩, hS.F ht9⟩) hS.2.2 dX4_matches_31
  · refine lv_iload_n hx hb dX4_matches_4 rfl (lv_at hl 3 rfl) ?_
    refine fz_if_lt (tgt := 30) (by constructor <;> (first | ((try clear c1_); (try clear hqb2); (try clear hqb); (try clear hsz); (try clear s₁); (try clear hn2); (try clear hn); (try clear hp1); (try clear hlen2); (try clear hlen); omega) | omega)) hx hb dX4_matches_5 (by decide) (fun c5_ => ?_) (fun c5_ => ?_)
    · refine lv_iconst (v := iZ 0) hx hb dX4_matches_30 rfl ?_
      exact W.zret (v := iZ (0)) hx hb hr (by decide +kernel) (fun t9 ht9 hW9 => ⟨⟨iZ (0), (μ, 0), rfl, ⟨rfl, (by
                    dsimp only
                    exact ⟨rfl, Or.inr ⟨rfl, fun h9 => absurd h9.1 (by (first | ((try clear h9); (try clear c1_); (try clear hqb2); (try clear hqb); (try clear hsz); (try clear s₁); (try clear hn2); (try clear hn); (try clear hp1); (try clear hlen2); (try clear hlen); omega) | omega))⟩⟩)⟩, by rw [ht9]; exact hP, va_K.moved hW9.alike hK⟩, hS.F ht9⟩) hS.2.2 dX4_matches_31
    · refine lv_iload_n hx hb dX4_matches_8 rfl (lv_at hl 1 rfl) ?_
      refine lv_iload hx hb dX4_matches_9 (lv_at hl 4 rfl) ?_
      refine lv_iadd hx hb dX4_matches_11 ?_
      refine lv_topi (fun x9 ex9 => ?_)
      obtain rfl : x9 = iZ (p1 + n) := ex9.trans (iZ_add _ _)
      refine lv_aload_n hx hb dX4_matches_12 rfl (lv_at hl 0 rfl) ?_
      refine fz_get (D := (dC, dI)) (ci := 4) (v := .int (iZ (μ q 5))) (C := RX4) (T := TX4) (N := 8) hx hb hts inG4 hown hK hP (k := q) (by (first | ((try clear ex9); (try clear c5_); (try clear c1_); (try clear hqb2); (try clear hsz); (try clear s₁); (try clear hn2); (try clear hn); (try clear hp2); (try clear hp1); (try clear hlen2); (try clear hlen); omega) | omega)) (F := (sRF h0 q)) (sE_rowO hq) rfl 5 (by decide) (hts _ k92) (fun _ h9 => h9) rfl dX4_matches_13 ?_
      refine fz_icmp_gt (tgt := 30) (by constructor <;> (first | ((try clear ex9); (try clear c5_); (try clear hqb2); (try clear hqb); (try clear hsz); (try clear s₁); (try clear hp2); (try clear hlen2); (try clear hlen); omega) | omega)) (by constructor <;> (first | ((try clear ex9); (try clear c5_); (try clear c1_); (try clear hsz); (try clear s₁); (try clear hn2); (try clear hn); (try clear hp2); (try clear hp1); (try clear hlen2); omega) | omega)) hx hb dX4_matches_16 (by decide) (fun c16_ => ?_) (fun c16_ => ?_)
      · refine lv_iconst (v := iZ 0) hx hb dX4_matches_30 rfl ?_
        exact W.zret (v := iZ (0)) hx hb hr (by decide +kernel) (fun t9 ht9 hW9 => ⟨⟨iZ (0), (μ, 0), rfl, ⟨rfl, (by
                        dsimp only
                        exact ⟨rfl, Or.inr ⟨rfl, fun h9 => absurd h9.1 (by (first | ((try clear h9); (try clear ex9); (try clear c5_); (try clear c1_); (try clear hqb2); (try clear hqb); (try clear hsz); (try clear s₁); (try clear hn2); (try clear hn); (try clear hp2); (try clear hp1); (try clear hlen2); (try clear hlen); omega) | omega))⟩⟩)⟩, by rw [ht9]; exact hP, va_K.moved hW9.alike hK⟩, hS.F ht9⟩) hS.2.2 dX4_matches_31
      · refine lv_iload_n hx hb dX4_matches_19 rfl (lv_at hl 3 rfl) ?_
        refine lv_iload hx hb dX4_matches_20 (lv_at hl 4 rfl) ?_
        refine lv_iadd hx hb dX4_matches_22 ?_
        refine lv_topi (fun x9 ex9 => ?_)
        obtain rfl : x9 = iZ (p2 + n) := ex9.trans (iZ_add _ _)
        refine lv_aload_n hx hb dX4_matches_23 rfl (lv_at hl 2 rfl) ?_
        refine fz_get (D := (dC, dI)) (ci := 4) (v := .int (iZ (μ q2 5))) (C := RX4) (T := TX4) (N := 8) hx hb hts inG4 hown hK hP (k := q2) (by (first | ((try clear ex9); (try clear c16_); (try clear c5_); (try clear c1_); (try clear hqb); (try clear hsz); (try clear s₁); (try clear hn2); (try clear hn); (try clear hp2); (try clear hp1); (try clear hlen2); (try clear hlen); omega) | omega)) (F := (sRF h0 q2)) (sE_rowO hq2) rfl 5 (by decide) (hts _ k92) (fun _ h9 => h9) rfl dX4_matches_24 ?_
        refine fz_icmp_le (tgt := 32) (by constructor <;> (first | ((try clear ex9); (try clear c16_); (try clear c1_); (try clear hqb2); (try clear hqb); (try clear hsz); (try clear s₁); (try clear hp1); (try clear hlen2); (try clear hlen); omega) | omega)) (by constructor <;> (first | ((try clear ex9); (try clear c16_); (try clear c5_); (try clear c1_); (try clear hqb); (try clear hsz); (try clear s₁); (try clear hn2); (try clear hn); (try clear hp2); (try clear hp1); (try clear hlen); omega) | omega)) hx hb dX4_matches_27 (by decide) (fun c27_ => ?_) (fun c27_ => ?_)
        · refine lv_iconst (v := iZ 0) hx hb dX4_matches_32 rfl ?_
          refine lv_istore (lv' := [(5, .int (iZ (0))), (0, .ref (h0 + q)), (1, .int (iZ (p1))), (2, .ref (h0 + q2)), (3, .int (iZ (p2))), (4, .int (iZ (n)))]) hx hb dX4_matches_33 hl (by decide) rfl (fun ls hl => ?_)
          refine LX4_matches_35 hx hb hml hown hts hK hM (Nat.le_of_ble_eq_true rfl) (Nat.le_of_ble_eq_true rfl) (Nat.le_of_ble_eq_true rfl) (Nat.le_of_ble_eq_true rfl) (μ) (q) (rm) (q2) (rm2) (p1) (p2) (n) (by assumption) (by assumption) (by assumption) (by assumption) (by assumption) (by assumption) (by assumption) (by assumption) (by (first | ((try clear c27_); (try clear ex9); (try clear c5_); (try clear hqb2); (try clear hqb); (try clear hsz); (try clear s₁); (try clear hn2); (try clear hn); (try clear hp2); (try clear hlen2); (try clear hlen); omega) | omega)) (by (first | ((try clear ex9); (try clear c16_); (try clear c1_); (try clear hqb2); (try clear hqb); (try clear hsz); (try clear s₁); (try clear hn2); (try clear hn); (try clear hp1); (try clear hlen2); (try clear hlen); omega) | omega)) ?_ ?_ _ (0) μ s.heap [] ls (by rfl) (by (first | ((try clear c27_); (try clear ex9); (try clear c16_); (try clear c5_); (try clear c1_); (try clear hqb2); (try clear hqb); (try clear hsz); (try clear s₁); (try clear hn2); (try clear hn); (try clear hp2); (try clear hp1); (try clear hlen2); (try clear hlen); omega) | omega)) (by intro t ht; (first | ((try clear c27_); (try clear ex9); (try clear c16_); (try clear c5_); (try clear c1_); (try clear hqb2); (try clear hqb); (try clear hsz); (try clear s₁); (try clear hn2); (try clear hn); (try clear hp2); (try clear hp1); (try clear hlen2); (try clear hlen); omega) | omega)) (Nat.lt_succ_self _) hP hS (lv_sub hl [0, 5, 4, 3, 2, 1] rfl)
          · intro i_1 μ1_ H locs ls q1_1 q2_1 hP hS hl
            have hl : lv_has ls 6 [(4, .int (iZ (n))), (3, .int (iZ (p2))), (2, .ref (h0 + q2)), (1, .int (iZ (p1))), (0, .ref (h0 + q))] := hl
            have hPn66 := hP
            obtain rfl := q1_1
            have hP := hPn66
            have qq := q2_1
            refine lv_iconst (v := iZ 0) hx hb dX4_matches_66 rfl ?_
            exact W.zret (v := iZ (0)) hx hb hr (by decide +kernel) (fun t9 ht9 hW9 => ⟨⟨iZ (0), (μ1_, 0), rfl, ⟨rfl, (by
                                dsimp only
                                exact ⟨rfl, Or.inr ⟨rfl, fun h9 => qq h9.2⟩⟩)⟩, by rw [ht9]; exact hP, va_K.moved hW9.alike hK⟩, hS.F ht9⟩) hS.2.2 dX4_matches_67
          · intro i_2 μ2_ H locs ls q3_2 q4_2 hP hS hl
            have hl : lv_has ls 6 [(4, .int (iZ (n))), (3, .int (iZ (p2))), (2, .ref (h0 + q2)), (1, .int (iZ (p1))), (0, .ref (h0 + q))] := hl
            have hPn74 := hP
            obtain rfl := q3_2
            have hP := hPn74
            have qq := q4_2
            refine lv_iconst (v := iZ 1) hx hb dX4_matches_74 rfl ?_
            exact W.zret (v := iZ (1)) hx hb hr (by decide +kernel) (fun t9 ht9 hW9 => ⟨⟨iZ (1), (μ2_, 1), rfl, ⟨rfl, (by
                                dsimp only
                                exact ⟨rfl, Or.inl ⟨rfl, ⟨by (first | ((try clear qq); (try clear hPn74); (try clear q4_2); (try clear q3_2); (try clear μ2_); (try clear i_2); (try clear c27_); (try clear ex9); (try clear c16_); (try clear c5_); (try clear hqb2); (try clear hqb); (try clear hsz); (try clear s₁); (try clear hn2); (try clear hn); (try clear hp2); (try clear hp1); (try clear hlen2); (try clear hlen); omega) | omega), by (first | ((try clear qq); (try clear hPn74); (try clear q4_2); (try clear q3_2); (try clear μ2_); (try clear i_2); (try clear c27_); (try clear ex9); (try clear c16_); (try clear c1_); (try clear hqb2); (try clear hqb); (try clear hsz); (try clear s₁); (try clear hn2); (try clear hn); (try clear hp2); (try clear hp1); (try clear hlen2); (try clear hlen); omega) | omega), by (first | ((try clear qq); (try clear hPn74); (try clear q4_2); (try clear q3_2); (try clear μ2_); (try clear i_2); (try clear c27_); (try clear ex9); (try clear c5_); (try clear c1_); (try clear hqb2); (try clear hqb); (try clear hsz); (try clear s₁); (try clear hn2); (try clear hn); (try clear hp2); (try clear hp1); (try clear hlen2); (try clear hlen); omega) | omega), by (first | ((try clear qq); (try clear hPn74); (try clear q4_2); (try clear q3_2); (try clear μ2_); (try clear i_2); (try clear ex9); (try clear c16_); (try clear c5_); (try clear c1_); (try clear hqb2); (try clear hqb); (try clear hsz); (try clear s₁); (try clear hn2); (try clear hn); (try clear hp2); (try clear hp1); (try clear hlen2); (try clear hlen); omega) | omega)⟩, qq⟩⟩)⟩, by rw [ht9]; exact hP, va_K.moved hW9.alike hK⟩, hS.F ht9⟩) hS.2.2 dX4_matches_75
        · refine lv_iconst (v := iZ 0) hx hb dX4_matches_30 rfl ?_
          exact W.zret (v := iZ (0)) hx hb hr (by decide +kernel) (fun t9 ht9 hW9 => ⟨⟨iZ (0), (μ, 0), rfl, ⟨rfl, (by
                            dsimp only
                            exact ⟨rfl, Or.inr ⟨rfl, fun h9 => absurd h9.1 (by (first | ((try clear h9); (try clear ex9); (try clear c16_); (try clear c5_); (try clear c1_); (try clear hqb2); (try clear hqb); (try clear hsz); (try clear s₁); (try clear hn2); (try clear hn); (try clear hp2); (try clear hp1); (try clear hlen2); (try clear hlen); omega) | omega))⟩⟩)⟩, by rw [ht9]; exact hP, va_K.moved hW9.alike hK⟩, hS.F ht9⟩) hS.2.2 dX4_matches_31
set_option maxHeartbeats 4000000 in
set_option maxRecDepth 100000 in
theorem LX4_costOfRange_6 {p : Program} {l : Launch} {e : Env} {R : Room} {s : State} {m : MethodId} {args : Array Value} {below : List Frame} {meth : Method} {c : Code} {cells slots : Nat} {Q : State → Prop} {dC : Nat → ClassId} {dI : Nat → Nat → Nat} {h0 : Nat} {cI cZ cII cIII : ClassId} (hx : p.tables.exec = Jvm.exec) (hb : c.code = cX4_costOfRange) (hml : c.maxLocals = 7) (hown : s.vm.findClass RX4 = some m.cls) (hts : ∀ w ∈ wsG, w.before args s = true) (hK : va_K (dC, dI) vwCl (sT cI cZ cII cIII) s) (hM : xM s) (hRf : 2 ≤ R.frames) (hRl : 35 ≤ R.locals) (hRc : cells ≤ R.cells) (hRs : slots ≤ R.slots) (μ0 : va_M) (q : Nat) (rm : Nat) (q2 : Nat) (rm2 : Nat) (p1 : Int) (p2 : Int) (n : Int) (hq : rowB q rm) (hq2 : rowB q2 rm2) (hsg : sgA μ0 (q + 1)) (hsg2 : sgA μ0 (q2 + 1)) (hb1 : 0 ≤ p1 ∧ p1 + n ≤ rm) (hb2 : 0 ≤ p2 ∧ p2 + n ≤ rm2) (hn : 0 ≤ n) (hexit45 : ∀ (i : Int) (co : Int) (μ : va_M) (H : Heap) (locs : List Loc) (ls : Array Slot), (μ = μ0) → (co = cRng μ0 (q + 1) p1.toNat (q2 + 1) p2.toNat n.toNat) → va_P (dC, dI) vwCl (fw (sE cI cZ cII cIII h0) h0 233 μ) H → va_S (fA h0 233 s.heap.size) s.heap H locs → lv_has ls 7 [(5, .int (iZ (co)))] → W p l e R s m args below meth c H locs cells slots Q (F0 m 45 ls [])) :
    ∀ (n9 : Nat) (i : Int) (co : Int) (μ : va_M) (H : Heap) (locs : List Loc) (ls : Array Slot), (μ = μ0) → (0 ≤ i ∧ i ≤ n) → (co = cRng μ0 (q + 1) p1.toNat (q2 + 1) p2.toNat i.toNat) → (n - i).toNat < n9 → va_P (dC, dI) vwCl (fw (sE cI cZ cII cIII h0) h0 233 μ) H → va_S (fA h0 233 s.heap.size) s.heap H locs → lv_has ls 7 [(6, .int (iZ (i))), (5, .int (iZ (co))), (4, .int (iZ (n))), (3, .int (iZ (p2))), (2, .ref (h0 + q2)), (1, .int (iZ (p1))), (0, .ref (h0 + q))] → W p l e R s m args below meth c H locs cells slots Q (F0 m 6 ls []) := by
  intro n9
  induction n9 with
  | zero => intro i co μ H locs ls hm9_ hi hc hm9 hP hS hl; exact absurd hm9 (Nat.not_lt_zero _)
  | succ n9 ih =>
    intro i co μ H locs ls hm9_ hi hc hm9 hP hS hl
    subst hm9_
    have hqb := rowB_b hq
    have hqb2 := rowB_b hq2
    have hcb := cRng_b μ (q + 1) p1.toNat (q2 + 1) p2.toNat i.toNat
    refine lv_iload hx hb dX4_costOfRange_6 (lv_at hl 0 rfl) ?_
    refine lv_iload hx hb dX4_costOfRange_8 (lv_at hl 2 rfl) ?_
    refine fz_icmp_ge (tgt := 45) (by constructor <;> (first | ((try clear hcb); (try clear hqb); (try clear hm9); (try clear hc); (try clear hm9_); (try clear hexit45); (try clear hn); (try clear hb1); (try clear hRs); (try clear hRc); (try clear hRl); (try clear hRf); omega) | omega)) (by constructor <;> (first | ((try clear hcb); (try clear hqb); (try clear hm9); (try clear hc); (try clear hi); (try clear hm9_); (try clear hexit45); (try clear hb1); (try clear hRs); (try clear hRc); (try clear hRl); (try clear hRf); omega) | omega)) hx hb dX4_costOfRange_10 (by decide) (fun c10_ => ?_) (fun c10_ => ?_)
    · exact hexit45 (i) (co) μ H locs ls (by rfl) (by rw [show n.toNat = i.toNat by (first | ((try clear hqb2); (try clear hqb); (try clear hm9); (try clear hc); (try clear hm9_); (try clear hexit45); (try clear hb2); (try clear hb1); (try clear hRs); (try clear hRc); (try clear hRl); (try clear hRf); omega) | omega)]; exact hc) hP hS (lv_sub hl [1] rfl)
    · refine lv_iload hx hb dX4_costOfRange_13 (lv_at hl 1 rfl) ?_
      refine lv_aload_n hx hb dX4_costOfRange_15 rfl (lv_at hl 6 rfl) ?_
      refine fz_get (D := (dC, dI)) (ci := 4) (v := .ref (h0 + (q + 1))) (C := RX4) (T := TX4) (N := 8) hx hb hts inG4 hown hK hP (k := q) (by (first | ((try clear c10_); (try clear hcb); (try clear hqb2); (try clear hm9); (try clear hc); (try clear hi); (try clear hm9_); (try clear hexit45); (try clear hn); (try clear hb2); (try clear hb1); (try clear hRs); (try clear hRc); (try clear hRl); (try clear hRf); omega) | omega)) (F := (sRF h0 q)) (sE_rowO hq) rfl 0 (by decide) (hts _ k77) (fun _ h9 => h9) rfl dX4_costOfRange_16 ?_
      refine lv_iload_n hx hb dX4_costOfRange_19 rfl (lv_at hl 5 rfl) ?_
      refine lv_iload hx hb dX4_costOfRange_20 (lv_at hl 0 rfl) ?_
      refine lv_iadd hx hb dX4_costOfRange_22 ?_
      refine lv_topi (fun x9 ex9 => ?_)
      obtain rfl : x9 = iZ (p1 + i) := ex9.trans (iZ_add _ _)
      refine fz_ld (k := (q + 1)) (n := rm) hx hb hK hP 0 (by (first | ((try clear ex9); (try clear c10_); (try clear hcb); (try clear hqb2); (try clear hm9); (try clear hc); (try clear hi); (try clear hm9_); (try clear hexit45); (try clear hn); (try clear hb2); (try clear hb1); (try clear hRs); (try clear hRc); (try clear hRl); (try clear hRf); omega) | omega)) (sE_rowA (r := 1) hq (by decide)) rfl ⟨by (first | ((try clear ex9); (try clear c10_); (try clear hcb); (try clear hqb2); (try clear hqb); (try clear hm9); (try clear hc); (try clear hm9_); (try clear hexit45); (try clear hn); (try clear hb2); (try clear hRs); (try clear hRc); (try clear hRl); (try clear hRf); omega) | omega), by (first | ((try clear ex9); (try clear hcb); (try clear hqb2); (try clear hqb); (try clear hm9); (try clear hc); (try clear hi); (try clear hm9_); (try clear hexit45); (try clear hn); (try clear hb2); (try clear hRs); (try clear hRc); (try clear hRl); (try clear hRf); omega) | omega)⟩ (by (first | ((try clear ex9); (try clear c10_); (try clear hcb); (try clear hm9); (try clear hc); (try clear hi); (try clear hm9_); (try clear hexit45); (try clear hn); (try clear hb2); (try clear hb1); (try clear hRs); (try clear hRc); (try clear hRl); (try clear hRf); omega) | omega)) dX4_costOfRange_23 ?_
      refine lv_aload_n hx hb dX4_costOfRange_24 rfl (lv_at hl 4 rfl) ?_
      refine fz_get (D := (dC, dI)) (ci := 4) (v := .ref (h0 + (q2 + 1))) (C := RX4) (T := TX4) (N := 8) hx hb hts inG4 hown hK hP (k := q2) (by (first | ((try clear ex9); (try clear c10_); (try clear hcb); (try clear hqb); (try clear hm9); (try clear hc); (try clear hi); (try clear hm9_); (try clear hexit45); (try clear hn); (try clear hb2); (try clear hb1); (try clear hRs); (try clear hRc); (try clear hRl); (try clear hRf); omega) | omega)) (F := (sRF h0 q2)) (sE_rowO hq2) rfl 0 (by decide) (hts _ k77) (fun _ h9 => h9) rfl dX4_costOfRange_25 ?_
      refine lv_iload_n hx hb dX4_costOfRange_28 rfl (lv_at hl 3 rfl) ?_
      refine lv_iload hx hb dX4_costOfRange_29 (lv_at hl 0 rfl) ?_
      refine lv_iadd hx hb dX4_costOfRange_31 ?_
      refine lv_topi (fun x9 ex9 => ?_)
      obtain rfl : x9 = iZ (p2 + i) := ex9.trans (iZ_add _ _)
      refine fz_ld (k := (q2 + 1)) (n := rm2) hx hb hK hP 0 (by (first | ((try clear ex9); (try clear c10_); (try clear hcb); (try clear hqb); (try clear hm9); (try clear hc); (try clear hi); (try clear hm9_); (try clear hexit45); (try clear hn); (try clear hb2); (try clear hb1); (try clear hRs); (try clear hRc); (try clear hRl); (try clear hRf); omega) | omega)) (sE_rowA (r := 1) hq2 (by decide)) rfl ⟨by (first | ((try clear ex9); (try clear c10_); (try clear hcb); (try clear hqb2); (try clear hqb); (try clear hm9); (try clear hc); (try clear hm9_); (try clear hexit45); (try clear hn); (try clear hb1); (try clear hRs); (try clear hRc); (try clear hRl); (try clear hRf); omega) | omega), by (first | ((try clear ex9); (try clear hcb); (try clear hqb2); (try clear hqb); (try clear hm9); (try clear hc); (try clear hi); (try clear hm9_); (try clear hexit45); (try clear hn); (try clear hb1); (try clear hRs); (try clear hRc); (try clear hRl); (try clear hRf); omega) | omega)⟩ (by (first | ((try clear ex9); (try clear c10_); (try clear hcb); (try clear hqb); (try clear hm9); (try clear hc); (try clear hi); (try clear hm9_); (try clear hexit45); (try clear hn); (try clear hb2); (try clear hb1); (try clear hRs); (try clear hRc); (try clear hRl); (try clear hRf); omega) | omega)) dX4_costOfRange_32 ?_
      refine va_calli (va_runSN (As := [.int (iZ (μ (q + 1) (p1 + i).toNat)), .int (iZ (μ (q2 + 1) (p2 + i).toNat))]) (rest := [.int (iZ (co))]) ⟨hx, hb, hml, hown, hts⟩ (s_costOfFusing l dC dI cI cZ cII cIII h0 H.size μ (μ (q + 1) (p1 + i).toNat) (μ (q2 + 1) (p2 + i).toNat) (by exact sgA_R hsg _) (by exact sgA_R hsg2 _)) ⟨va_cnB (host := "PageSkeleton") 2 hts (gI_G k787) rfl rfl rfl (xM_nest hM 18 rfl) (hts _ k1) (by decide +kernel) ⟨by show 1 + 1 ≤ _; (first | ((try clear ex9); (try clear c10_); (try clear hcb); (try clear hqb2); (try clear hqb); (try clear hm9); (try clear hc); (try clear hi); (try clear hm9_); (try clear hexit45); (try clear hn); (try clear hb2); (try clear hb1); (try clear hRs); (try clear hRc); (try clear hRl); omega) | omega), by show 8 + (2 + 11) + (14) ≤ _; (first | ((try clear ex9); (try clear c10_); (try clear hcb); (try clear hqb2); (try clear hqb); (try clear hm9); (try clear hc); (try clear hi); (try clear hm9_); (try clear hexit45); (try clear hn); (try clear hb2); (try clear hb1); (try clear hRs); (try clear hRc); (try clear hRf); omega) | omega)⟩, hts _ k786, trivial⟩ ⟨fun a U g mk q => by obtain ⟨q0, q1, qP, qK, qM⟩ := q; exact ⟨q0, q1, qP, va_K.moved (u := U) (U := U.calling g mk a) (Vm.Alike.refl U.vm) qK, qM⟩, fun U hU hW => ⟨rfl, by rw [hU], by rw [hU]; exact hP, va_K.moved hW.alike hK, xM_warm hW hM⟩⟩ rfl rfl hl.1 rfl (lv_room (Nat.le_of_ble_eq_true rfl)) dX4_costOfRange_33 ⟨hRc, hRs⟩) hS (fun q _ h => fA_le hS.1 q h) (fA_le hS.1) (fun r9 u9 t9 H1 locs ht9 hvm9 hw9 hB9 hz9 hk9 hS => ?_)
      obtain ⟨μq, rq⟩ := u9
      obtain ⟨hP, -⟩ := hB9
      rw [ht9] at hP
      generalize H1 = H at hP hS ⊢
      obtain ⟨e9, hw9⟩ := hw9
      have e9 : r9 = iZ rq := e9
      subst e9
      simp only at hP hw9
      have hμq := hw9; clear hw9
      rw [hμq.1] at hP; have hμq := hμq.2
      have hrq : rq = sCo (μ (q + 1) (p1 + i).toNat) (μ (q2 + 1) (p2 + i).toNat) := hμq
      rw [show (p1 + i).toNat = p1.toNat + i.toNat by (first | ((try clear hrq); (try clear hμq); (try clear μq); (try clear hz9); (try clear ex9); (try clear c10_); (try clear hqb2); (try clear hqb); (try clear hm9); (try clear hc); (try clear hm9_); (try clear hexit45); (try clear hn); (try clear hb2); (try clear hRs); (try clear hRc); (try clear hRl); (try clear hRf); omega) | omega), show (p2 + i).toNat = p2.toNat + i.toNat by (first | ((try clear hrq); (try clear hμq); (try clear μq); (try clear hz9); (try clear ex9); (try clear c10_); (try clear hqb2); (try clear hqb); (try clear hm9); (try clear hc); (try clear hm9_); (try clear hexit45); (try clear hn); (try clear hb1); (try clear hRs); (try clear hRc); (try clear hRl); (try clear hRf); omega) | omega)] at hrq
      have hs01 := sCo_01 (μ (q + 1) (p1.toNat + i.toNat)) (μ (q2 + 1) (p2.toNat + i.toNat))
      refine lv_iadd hx hb dX4_costOfRange_36 ?_
      refine lv_topi (fun x9 ex9 => ?_)
      obtain rfl : x9 = iZ (co + rq) := ex9.trans (iZ_add _ _)
      refine lv_istore (lv' := [(5, .int (iZ (co + rq))), (6, .int (iZ (i))), (4, .int (iZ (n))), (3, .int (iZ (p2))), (2, .ref (h0 + q2)), (1, .int (iZ (p1))), (0, .ref (h0 + q))]) hx hb dX4_costOfRange_37 hl (by decide) rfl (fun ls hl => ?_)
      refine lv_iinc (v := iZ (i + 1)) (lv' := [(6, .int (iZ (i + 1))), (5, .int (iZ (co + rq))), (4, .int (iZ (n))), (3, .int (iZ (p2))), (2, .ref (h0 + q2)), (1, .int (iZ (p1))), (0, .ref (h0 + q))]) hx hb dX4_costOfRange_39 hl (k := 1) rfl (iZ_add _ _) (by decide) rfl (fun ls hl => ?_)
      refine lv_goto (tgt := 6) hx hb dX4_costOfRange_42 (by decide) ?_
      exact ih (i + 1) (co + rq) μ H locs ls (by rfl) (by (first | ((try clear ex9); (try clear hs01); (try clear hrq); (try clear hμq); (try clear μq); (try clear hz9); (try clear hcb); (try clear hqb2); (try clear hqb); (try clear hm9); (try clear hc); (try clear hm9_); (try clear hexit45); (try clear hn); (try clear hb2); (try clear hb1); (try clear hRs); (try clear hRc); (try clear hRl); (try clear hRf); omega) | omega)) (by rw [show (i + 1).toNat = i.toNat + 1 by (first | ((try clear ex9); (try clear hs01); (try clear hrq); (try clear hμq); (try clear μq); (try clear hz9); (try clear c10_); (try clear hcb); (try clear hqb2); (try clear hqb); (try clear hm9); (try clear hc); (try clear hm9_); (try clear hexit45); (try clear hn); (try clear hb2); (try clear hb1); (try clear hRs); (try clear hRc); (try clear hRl); (try clear hRf); omega) | omega), cRng, ← hc, ← hrq]) (by (first | ((try clear ex9); (try clear hs01); (try clear hrq); (try clear hμq); (try clear μq); (try clear hz9); (try clear hcb); (try clear hc); (try clear hi); (try clear hm9_); (try clear hexit45); (try clear hn); (try clear hb2); (try clear hb1); (try clear hRs); (try clear hRc); (try clear hRl); (try clear hRf); omega) | omega)) hP hS (lv_sub hl [0, 1, 2, 3, 4, 5, 6] rfl)
set_option maxHeartbeats 4000000 in
set_option maxRecDepth 100000 in
theorem s_RcostOfRange (l : Launch) (dC : Nat → ClassId) (dI : Nat → Nat → Nat) (cI cZ cII cIII : ClassId) (h0 sz : Nat) (μ : va_M) (q : Nat) (rm : Nat) (q2 : Nat) (rm2 : Nat) (p1 : Int) (p2 : Int) (n : Int) (hq : rowB q rm) (hq2 : rowB q2 rm2) (hsg : sgA μ (q + 1)) (hsg2 : sgA μ (q2 + 1)) (hb1 : 0 ≤ p1 ∧ p1 + n ≤ rm) (hb2 : 0 ≤ p2 ∧ p2 + n ≤ rm2) (hn : 0 ≤ n) : Met l yX4_costOfRange (Cond.code yX4_costOfRange cX4_costOfRange 7 (some .int) :: wsG) ({ frames := 2, cells := 0, slots := 0, locals := 35 } : Room) (va_Pc [.ref (h0 + q), .int (iZ (p1)), .ref (h0 + q2), .int (iZ (p2)), .int (iZ (n))] (fun U => U.heap.size = sz ∧ va_P (dC, dI) vwCl (fw (sE cI cZ cII cIII h0) h0 233 μ) U.heap ∧ va_K (dC, dI) vwCl (sT cI cZ cII cIII) U ∧ xM U)) (va_Qi (fun (r9 : Int32) (u : va_M × Int) => r9 = iZ u.2 ∧ (fun (u : va_M) (r : Int) => u = μ ∧ r = cRng μ (q + 1) p1.toNat (q2 + 1) p2.toNat n.toNat) u.1 u.2) (fun u t => va_P (dC, dI) vwCl (fw (sE cI cZ cII cIII h0) h0 233 u.1) t.heap ∧ va_K (dC, dI) vwCl (sT cI cZ cII cIII) t) (fA h0 233 sz)) 0 0 (fA h0 233 sz) := by
  refine Met.ofW (cc := cX4_costOfRange) (maxL := 7) (ret := (some .int)) (by decide) rfl ?_
  intro p e s m args below meth c s₁ B hml hv
  obtain ⟨rfl, hsz, hP, hK, hM⟩ := hv
  have hx := B.exec
  have hb := B.bytes
  have hr := B.returns
  have hts : ∀ w ∈ wsG, w.before _ s = true := hG_of (atoms_spec (ws := (Cond.code yX4_costOfRange cX4_costOfRange 7 (some .int) :: wsG)) B.pre)
  have hown : s.vm.findClass RX4 = some m.cls := findClass_of_methodNamed B.named
  have hlocks := B.notSynchronized
  subst hsz
  have hS : va_S (fA h0 233 s.heap.size) s.heap s.heap [] := va_S.rf
  have hl := lv_entry ([.ref (h0 + q), .int (iZ (p1)), .ref (h0 + q2), .int (iZ (p2)), .int (iZ (n))]) (n := 7) (Nat.le_of_ble_eq_true rfl)
  rw [lg_entry_eq]
  generalize (lg_sl ([.ref (h0 + q), .int (iZ (p1)), .ref (h0 + q2), .int (iZ (p2)), .int (iZ (n))]) ++ List.replicate (7 - (lg_sl ([.ref (h0 + q), .int (iZ (p1)), .ref (h0 + q2), .int (iZ (p2)), .int (iZ (n))])).length) Slot.unset).toArray = ls at hl ⊢
  have hl : lv_has ls 7 [(0, .ref (h0 + q)), (1, .int (iZ (p1))), (2, .ref (h0 + q2)), (3, .int (iZ (p2))), (4, .int (iZ (n)))] := hl
  have hqb := rowB_b hq
  have hqb2 := rowB_b hq2
  refine lv_iconst (v := iZ 0) hx hb dX4_costOfRange_0 rfl ?_
  refine lv_istore (lv' := [(5, .int (iZ (0))), (0, .ref (h0 + q)), (1, .int (iZ (p1))), (2, .ref (h0 + q2)), (3, .int (iZ (p2))), (4, .int (iZ (n)))]) hx hb dX4_costOfRange_1 hl (by decide) rfl (fun ls hl => ?_)
  refine lv_iconst (v := iZ 0) hx hb dX4_costOfRange_3 rfl ?_
  refine lv_istore (lv' := [(6, .int (iZ (0))), (5, .int (iZ (0))), (0, .ref (h0 + q)), (1, .int (iZ (p1))), (2, .ref (h0 + q2)), (3, .int (iZ (p2))), (4, .int (iZ (n)))]) hx hb dX4_costOfRange_4 hl (by decide) rfl (fun ls hl => ?_)
  refine LX4_costOfRange_6 hx hb hml hown hts hK hM (Nat.le_of_ble_eq_true rfl) (Nat.le_of_ble_eq_true rfl) (Nat.le_of_ble_eq_true rfl) (Nat.le_of_ble_eq_true rfl) (μ) (q) (rm) (q2) (rm2) (p1) (p2) (n) (by assumption) (by assumption) (by assumption) (by assumption) (by assumption) (by assumption) (by assumption) ?_ _ (0) (0) μ s.heap [] ls (by rfl) (by (first | ((try clear hqb2); (try clear hqb); (try clear hsz); (try clear s₁); (try clear hb2); (try clear hb1); omega) | omega)) (by rfl) (Nat.lt_succ_self _) hP hS (lv_sub hl [0, 1, 6, 5, 4, 3, 2] rfl)
  · intro i_1 co_1 μ1_ H locs ls q1_1 q2_1 hP hS hl
    have hl : lv_has ls 7 [(5, .int (iZ (co_1)))] := hl
    have hPn45 := hP
    obtain rfl := q1_1
    have hP := hPn45
    refine lv_iload hx hb dX4_costOfRange_45 (lv_at hl 0 rfl) ?_
    exact W.iret (v := iZ (co_1)) hx hb hr (fun t9 ht9 hW9 => ⟨⟨iZ (co_1), (μ1_, co_1), rfl, ⟨rfl, (by
                dsimp only
                exact ⟨rfl, q2_1⟩)⟩, by rw [ht9]; exact hP, va_K.moved hW9.alike hK⟩, hS.F ht9⟩) hS.2.2 dX4_costOfRange_47
set_option maxHeartbeats 4000000 in
set_option maxRecDepth 100000 in
theorem LX4_fuseInto_3 {p : Program} {l : Launch} {e : Env} {R : Room} {s : State} {m : MethodId} {args : Array Value} {below : List Frame} {meth : Method} {c : Code} {cells slots : Nat} {Q : State → Prop} {dC : Nat → ClassId} {dI : Nat → Nat → Nat} {h0 : Nat} {cI cZ cII cIII : ClassId} (hx : p.tables.exec = Jvm.exec) (hb : c.code = cX4_fuseInto) (hml : c.maxLocals = 5) (hown : s.vm.findClass RX4 = some m.cls) (hts : ∀ w ∈ wsG, w.before args s = true) (hK : va_K (dC, dI) vwCl (sT cI cZ cII cIII) s) (hM : xM s) (hRf : 2 ≤ R.frames) (hRl : 35 ≤ R.locals) (hRc : cells ≤ R.cells) (hRs : slots ≤ R.slots) (μ0 : va_M) (q : Nat) (rm : Nat) (p1 : Int) (p2 : Int) (n : Int) (hq : rowB q rm) (hsg : sgA μ0 (q + 1)) (hb1 : 0 ≤ p1 ∧ p1 + n ≤ rm) (hb2 : 0 ≤ p2 ∧ p2 + n ≤ rm) (hn : 0 ≤ n) (hap : p1 + n ≤ p2 ∨ p2 + n ≤ p1) (hexit45 : ∀ (i : Int) (μ : va_M) (H : Heap) (locs : List Loc) (ls : Array Slot), (fr (fun x y => x = q + 1 ∧ p1.toNat ≤ y ∧ y < p1.toNat + n.toNat) μ0 μ) → (∀ t : Nat, t < n.toNat → μ (q + 1) (p1.toNat + t) = sFu (μ0 (q + 1) (p1.toNat + t)) (μ0 (q + 1) (p2.toNat + t))) → va_P (dC, dI) vwCl (fw (sE cI cZ cII cIII h0) h0 233 μ) H → va_S (fA h0 233 s.heap.size) s.heap H locs → lv_has ls 5 [] → W p l e R s m args below meth c H locs cells slots Q (F0 m 45 ls [])) :
    ∀ (n9 : Nat) (i : Int) (μ : va_M) (H : Heap) (locs : List Loc) (ls : Array Slot), (0 ≤ i ∧ i ≤ n) → (fr (fun x y => x = q + 1 ∧ p1.toNat ≤ y ∧ y < p1.toNat + i.toNat) μ0 μ) → (∀ t : Nat, t < i.toNat → μ (q + 1) (p1.toNat + t) = sFu (μ0 (q + 1) (p1.toNat + t)) (μ0 (q + 1) (p2.toNat + t))) → (n - i).toNat < n9 → va_P (dC, dI) vwCl (fw (sE cI cZ cII cIII h0) h0 233 μ) H → va_S (fA h0 233 s.heap.size) s.heap H locs → lv_has ls 5 [(4, .int (iZ (i))), (3, .int (iZ (n))), (2, .int (iZ (p2))), (1, .int (iZ (p1))), (0, .ref (h0 + q))] → W p l e R s m args below meth c H locs cells slots Q (F0 m 3 ls []) := by
  intro n9
  induction n9 with
  | zero => intro i μ H locs ls hi hf hv hm9 hP hS hl; exact absurd hm9 (Nat.not_lt_zero _)
  | succ n9 ih =>
    intro i μ H locs ls hi hf hv hm9 hP hS hl
    have hqb := rowB_b hq
    refine lv_iload hx hb dX4_fuseInto_3 (lv_at hl 0 rfl) ?_
    refine lv_iload_n hx hb dX4_fuseInto_5 rfl (lv_at hl 1 rfl) ?_
    refine fz_icmp_ge (tgt := 45) (by constructor <;> (first | ((try clear hm9); (try clear hf); (try clear hexit45); (try clear hap); (try clear hn); (try clear hb1); (try clear hRs); (try clear hRc); (try clear hRl); (try clear hRf); omega) | omega)) (by constructor <;> (first | ((try clear hm9); (try clear hf); (try clear hi); (try clear hexit45); (try clear hap); (try clear hb2); (try clear hRs); (try clear hRc); (try clear hRl); (try clear hRf); omega) | omega)) hx hb dX4_fuseInto_6 (by decide) (fun c6_ => ?_) (fun c6_ => ?_)
    · exact hexit45 (i) μ H locs ls (by rw [show n.toNat = i.toNat by (first | ((try clear hqb); (try clear hm9); (try clear hf); (try clear hexit45); (try clear hap); (try clear hn); (try clear hb2); (try clear hb1); (try clear hRs); (try clear hRc); (try clear hRl); (try clear hRf); omega) | omega)]; exact hf) (by rw [show n.toNat = i.toNat by (first | ((try clear hqb); (try clear hm9); (try clear hf); (try clear hexit45); (try clear hap); (try clear hn); (try clear hb2); (try clear hb1); (try clear hRs); (try clear hRc); (try clear hRl); (try clear hRf); omega) | omega)]; exact hv) hP hS (lv_sub hl [] rfl)
    · have e1 : μ (q + 1) (p1 + i).toNat = μ0 (q + 1) (p1.toNat + i.toNat) := by rw [show (p1 + i).toNat = p1.toNat + i.toNat by (first | ((try clear e1); (try clear c6_); (try clear hqb); (try clear hm9); (try clear hf); (try clear hexit45); (try clear hap); (try clear hn); (try clear hb2); (try clear hRs); (try clear hRc); (try clear hRl); (try clear hRf); omega) | omega)]; exact hf _ _ (by (first | ((try clear e1); (try clear c6_); (try clear hqb); (try clear hm9); (try clear hf); (try clear hi); (try clear hexit45); (try clear hap); (try clear hn); (try clear hb2); (try clear hb1); (try clear hRs); (try clear hRc); (try clear hRl); (try clear hRf); omega) | omega))
      have e2 : μ (q + 1) (p2 + i).toNat = μ0 (q + 1) (p2.toNat + i.toNat) := by rw [show (p2 + i).toNat = p2.toNat + i.toNat by (first | ((try clear e2); (try clear e1); (try clear c6_); (try clear hqb); (try clear hm9); (try clear hf); (try clear hexit45); (try clear hap); (try clear hn); (try clear hb1); (try clear hRs); (try clear hRc); (try clear hRl); (try clear hRf); omega) | omega)]; exact hf _ _ (by (first | ((try clear e2); (try clear e1); (try clear hm9); (try clear hf); (try clear hi); (try clear hexit45); (try clear hb1); (try clear hRs); (try clear hRc); (try clear hRl); (try clear hRf); omega) | omega))
      refine lv_aload_n hx hb dX4_fuseInto_9 rfl (lv_at hl 4 rfl) ?_
      refine fz_get (D := (dC, dI)) (ci := 4) (v := .ref (h0 + (q + 1))) (C := RX4) (T := TX4) (N := 8) hx hb hts inG4 hown hK hP (k := q) (by (first | ((try clear e2); (try clear e1); (try clear c6_); (try clear hm9); (try clear hf); (try clear hi); (try clear hexit45); (try clear hap); (try clear hn); (try clear hb2); (try clear hb1); (try clear hRs); (try clear hRc); (try clear hRl); (try clear hRf); omega) | omega)) (F := (sRF h0 q)) (sE_rowO hq) rfl 0 (by decide) (hts _ k77) (fun _ h9 => h9) rfl dX4_fuseInto_10 ?_
      refine lv_iload_n hx hb dX4_fuseInto_13 rfl (lv_at hl 3 rfl) ?_
      refine lv_iload hx hb dX4_fuseInto_14 (lv_at hl 0 rfl) ?_
      refine lv_iadd hx hb dX4_fuseInto_16 ?_
      refine lv_topi (fun x9 ex9 => ?_)
      obtain rfl : x9 = iZ (p1 + i) := ex9.trans (iZ_add _ _)
      refine lv_aload_n hx hb dX4_fuseInto_17 rfl (lv_at hl 4 rfl) ?_
      refine fz_get (D := (dC, dI)) (ci := 4) (v := .ref (h0 + (q + 1))) (C := RX4) (T := TX4) (N := 8) hx hb hts inG4 hown hK hP (k := q) (by (first | ((try clear ex9); (try clear e2); (try clear e1); (try clear c6_); (try clear hm9); (try clear hf); (try clear hi); (try clear hexit45); (try clear hap); (try clear hn); (try clear hb2); (try clear hb1); (try clear hRs); (try clear hRc); (try clear hRl); (try clear hRf); omega) | omega)) (F := (sRF h0 q)) (sE_rowO hq) rfl 0 (by decide) (hts _ k77) (fun _ h9 => h9) rfl dX4_fuseInto_18 ?_
      refine lv_iload_n hx hb dX4_fuseInto_21 rfl (lv_at hl 3 rfl) ?_
      refine lv_iload hx hb dX4_fuseInto_22 (lv_at hl 0 rfl) ?_
      refine lv_iadd hx hb dX4_fuseInto_24 ?_
      refine lv_topi (fun x9 ex9 => ?_)
      obtain rfl : x9 = iZ (p1 + i) := ex9.trans (iZ_add _ _)
      refine fz_ld (k := (q + 1)) (n := rm) hx hb hK hP 0 (by (first | ((try clear ex9); (try clear e2); (try clear e1); (try clear c6_); (try clear hm9); (try clear hf); (try clear hi); (try clear hexit45); (try clear hap); (try clear hn); (try clear hb2); (try clear hb1); (try clear hRs); (try clear hRc); (try clear hRl); (try clear hRf); omega) | omega)) (sE_rowA (r := 1) hq (by decide)) rfl ⟨by (first | ((try clear ex9); (try clear e2); (try clear e1); (try clear c6_); (try clear hqb); (try clear hm9); (try clear hf); (try clear hexit45); (try clear hap); (try clear hn); (try clear hb2); (try clear hRs); (try clear hRc); (try clear hRl); (try clear hRf); omega) | omega), by (first | ((try clear ex9); (try clear e2); (try clear e1); (try clear hqb); (try clear hm9); (try clear hf); (try clear hi); (try clear hexit45); (try clear hap); (try clear hn); (try clear hb2); (try clear hRs); (try clear hRc); (try clear hRl); (try clear hRf); omega) | omega)⟩ (by (first | ((try clear ex9); (try clear e2); (try clear e1); (try clear c6_); (try clear hm9); (try clear hf); (try clear hi); (try clear hexit45); (try clear hap); (try clear hn); (try clear hb2); (try clear hb1); (try clear hRs); (try clear hRc); (try clear hRl); (try clear hRf); omega) | omega)) dX4_fuseInto_25 ?_
      refine lv_aload_n hx hb dX4_fuseInto_26 rfl (lv_at hl 4 rfl) ?_
      refine fz_get (D := (dC, dI)) (ci := 4) (v := .ref (h0 + (q + 1))) (C := RX4) (T := TX4) (N := 8) hx hb hts inG4 hown hK hP (k := q) (by (first | ((try clear ex9); (try clear e2); (try clear e1); (try clear c6_); (try clear hm9); (try clear hf); (try clear hi); (try clear hexit45); (try clear hap); (try clear hn); (try clear hb2); (try clear hb1); (try clear hRs); (try clear hRc); (try clear hRl); (try clear hRf); omega) | omega)) (F := (sRF h0 q)) (sE_rowO hq) rfl 0 (by decide) (hts _ k77) (fun _ h9 => h9) rfl dX4_fuseInto_27 ?_
      refine lv_iload_n hx hb dX4_fuseInto_30 rfl (lv_at hl 2 rfl) ?_
      refine lv_iload hx hb dX4_fuseInto_31 (lv_at hl 0 rfl) ?_
      refine lv_iadd hx hb dX4_fuseInto_33 ?_
      refine lv_topi (fun x9 ex9 => ?_)
      obtain rfl : x9 = iZ (p2 + i) := ex9.trans (iZ_add _ _)
      refine fz_ld (k := (q + 1)) (n := rm) hx hb hK hP 0 (by (first | ((try clear ex9); (try clear e2); (try clear e1); (try clear c6_); (try clear hm9); (try clear hf); (try clear hi); (try clear hexit45); (try clear hap); (try clear hn); (try clear hb2); (try clear hb1); (try clear hRs); (try clear hRc); (try clear hRl); (try clear hRf); omega) | omega)) (sE_rowA (r := 1) hq (by decide)) rfl ⟨by (first | ((try clear ex9); (try clear e2); (try clear e1); (try clear c6_); (try clear hqb); (try clear hm9); (try clear hf); (try clear hexit45); (try clear hap); (try clear hn); (try clear hb1); (try clear hRs); (try clear hRc); (try clear hRl); (try clear hRf); omega) | omega), by (first | ((try clear ex9); (try clear e2); (try clear e1); (try clear hqb); (try clear hm9); (try clear hf); (try clear hi); (try clear hexit45); (try clear hap); (try clear hn); (try clear hb1); (try clear hRs); (try clear hRc); (try clear hRl); (try clear hRf); omega) | omega)⟩ (by (first | ((try clear ex9); (try clear e2); (try clear e1); (try clear c6_); (try clear hm9); (try clear hf); (try clear hi); (try clear hexit45); (try clear hap); (try clear hn); (try clear hb2); (try clear hb1); (try clear hRs); (try clear hRc); (try clear hRl); (try clear hRf); omega) | omega)) dX4_fuseInto_34 ?_
      refine va_calli (va_runSN (As := [.int (iZ (μ (q + 1) (p1 + i).toNat)), .int (iZ (μ (q + 1) (p2 + i).toNat))]) (rest := [.int (iZ (p1 + i)), .ref (h0 + (q + 1))]) ⟨hx, hb, hml, hown, hts⟩ (s_fused l dC dI cI cZ cII cIII h0 H.size μ (μ (q + 1) (p1 + i).toNat) (μ (q + 1) (p2 + i).toNat) (by rw [e1]; exact sgA_R hsg _) (by rw [e2]; exact sgA_R hsg _)) ⟨va_cnB (host := "PageSkeleton") 2 hts (gI_G k458) rfl rfl rfl (xM_nest hM 10 rfl) (hts _ k1) (by decide +kernel) ⟨by show 1 + 1 ≤ _; (first | ((try clear ex9); (try clear e2); (try clear e1); (try clear c6_); (try clear hqb); (try clear hm9); (try clear hf); (try clear hi); (try clear hexit45); (try clear hap); (try clear hn); (try clear hb2); (try clear hb1); (try clear hRs); (try clear hRc); (try clear hRl); omega) | omega), by show 8 + (2 + 11) + (14) ≤ _; (first | ((try clear ex9); (try clear e2); (try clear e1); (try clear c6_); (try clear hqb); (try clear hm9); (try clear hf); (try clear hi); (try clear hexit45); (try clear hap); (try clear hn); (try clear hb2); (try clear hb1); (try clear hRs); (try clear hRc); (try clear hRf); omega) | omega)⟩, hts _ k457, trivial⟩ ⟨fun a U g mk q => by obtain ⟨q0, q1, qP, qK, qM⟩ := q; exact ⟨q0, q1, qP, va_K.moved (u := U) (U := U.calling g mk a) (Vm.Alike.refl U.vm) qK, qM⟩, fun U hU hW => ⟨rfl, by rw [hU], by rw [hU]; exact hP, va_K.moved hW.alike hK, xM_warm hW hM⟩⟩ rfl rfl hl.1 rfl (lv_room (Nat.le_of_ble_eq_true rfl)) dX4_fuseInto_35 ⟨hRc, hRs⟩) hS (fun q _ h => fA_le hS.1 q h) (fA_le hS.1) (fun r9 u9 t9 H1 locs ht9 hvm9 hw9 hB9 hz9 hk9 hS => ?_)
      obtain ⟨μq, rq⟩ := u9
      obtain ⟨hP, -⟩ := hB9
      rw [ht9] at hP
      generalize H1 = H at hP hS ⊢
      obtain ⟨e9, hw9⟩ := hw9
      have e9 : r9 = iZ rq := e9
      subst e9
      simp only at hP hw9
      have hμq := hw9; clear hw9
      rw [hμq.1] at hP; have hμq := hμq.2
      have hrq : rq = sFu (μ (q + 1) (p1 + i).toNat) (μ (q + 1) (p2 + i).toNat) := hμq
      rw [e1, e2] at hrq
      refine fz_st (k := (q + 1)) (n := rm) (i := (p1 + i)) (z := rq) hx hb hK hP fA_in hS 0 (by (first | ((try clear hrq); (try clear hμq); (try clear μq); (try clear hz9); (try clear ex9); (try clear e2); (try clear e1); (try clear c6_); (try clear hm9); (try clear hf); (try clear hi); (try clear hexit45); (try clear hap); (try clear hn); (try clear hb2); (try clear hb1); (try clear hRs); (try clear hRc); (try clear hRl); (try clear hRf); omega) | omega)) (sE_rowA (r := 1) hq (by decide)) rfl ⟨by (first | ((try clear hrq); (try clear hμq); (try clear μq); (try clear hz9); (try clear ex9); (try clear e2); (try clear e1); (try clear c6_); (try clear hqb); (try clear hm9); (try clear hf); (try clear hexit45); (try clear hap); (try clear hn); (try clear hb2); (try clear hRs); (try clear hRc); (try clear hRl); (try clear hRf); omega) | omega), by (first | ((try clear hrq); (try clear hμq); (try clear μq); (try clear hz9); (try clear ex9); (try clear e2); (try clear e1); (try clear hqb); (try clear hm9); (try clear hf); (try clear hi); (try clear hexit45); (try clear hap); (try clear hn); (try clear hb2); (try clear hRs); (try clear hRc); (try clear hRl); (try clear hRf); omega) | omega)⟩ (by (first | ((try clear hrq); (try clear hμq); (try clear μq); (try clear hz9); (try clear ex9); (try clear e2); (try clear e1); (try clear c6_); (try clear hm9); (try clear hf); (try clear hi); (try clear hexit45); (try clear hap); (try clear hn); (try clear hb2); (try clear hb1); (try clear hRs); (try clear hRc); (try clear hRl); (try clear hRf); omega) | omega)) dX4_fuseInto_38 (fun H locs hP hS => ?_)
      obtain ⟨μ1, eμ1⟩ : ∃ x : va_M, x = uz μ (q + 1) (p1 + i).toNat (rq) := ⟨_, rfl⟩
      rw [← eμ1] at hP
      refine lv_iinc (v := iZ (i + 1)) (lv' := [(4, .int (iZ (i + 1))), (3, .int (iZ (n))), (2, .int (iZ (p2))), (1, .int (iZ (p1))), (0, .ref (h0 + q))]) hx hb dX4_fuseInto_39 hl (k := 0) rfl (iZ_add _ _) (by decide) rfl (fun ls hl => ?_)
      refine lv_goto (tgt := 3) hx hb dX4_fuseInto_42 (by decide) ?_
      exact ih (i + 1) μ1 H locs ls (by (first | ((try clear x); (try clear eμ1); (try clear μ1); (try clear hrq); (try clear hμq); (try clear μq); (try clear hz9); (try clear ex9); (try clear e2); (try clear e1); (try clear hqb); (try clear hm9); (try clear hf); (try clear hexit45); (try clear hap); (try clear hn); (try clear hb2); (try clear hb1); (try clear hRs); (try clear hRc); (try clear hRl); (try clear hRf); omega) | omega)) (by
                    rw [eμ1]
                    refine fr_uz (fr_mono hf (fun x y h => ?_)) ?_
                    · exact ⟨h.1, by (first | ((try clear eμ1); (try clear μ1); (try clear hrq); (try clear hμq); (try clear μq); (try clear hz9); (try clear ex9); (try clear e2); (try clear e1); (try clear c6_); (try clear hqb); (try clear hm9); (try clear hf); (try clear hi); (try clear hexit45); (try clear hap); (try clear hn); (try clear hb2); (try clear hb1); (try clear hRs); (try clear hRc); (try clear hRl); (try clear hRf); omega) | omega), by (first | ((try clear eμ1); (try clear μ1); (try clear hrq); (try clear hμq); (try clear μq); (try clear hz9); (try clear ex9); (try clear e2); (try clear e1); (try clear c6_); (try clear hqb); (try clear hm9); (try clear hf); (try clear hexit45); (try clear hap); (try clear hn); (try clear hb2); (try clear hb1); (try clear hRs); (try clear hRc); (try clear hRl); (try clear hRf); omega) | omega)⟩
                    · exact ⟨rfl, by (first | ((try clear h); (try clear y); (try clear x); (try clear eμ1); (try clear μ1); (try clear hrq); (try clear hμq); (try clear μq); (try clear hz9); (try clear ex9); (try clear e2); (try clear e1); (try clear c6_); (try clear hqb); (try clear hm9); (try clear hf); (try clear hexit45); (try clear hap); (try clear hn); (try clear hb2); (try clear hb1); (try clear hRs); (try clear hRc); (try clear hRl); (try clear hRf); omega) | omega), by (first | ((try clear h); (try clear y); (try clear x); (try clear eμ1); (try clear μ1); (try clear hrq); (try clear hμq); (try clear μq); (try clear hz9); (try clear ex9); (try clear e2); (try clear e1); (try clear c6_); (try clear hqb); (try clear hm9); (try clear hf); (try clear hexit45); (try clear hap); (try clear hn); (try clear hb2); (try clear hRs); (try clear hRc); (try clear hRl); (try clear hRf); omega) | omega)⟩) (by
                    intro t ht
                    rw [eμ1]
                    by_cases h9 : t = i.toNat
                    · rw [h9, show p1.toNat + i.toNat = (p1 + i).toNat by (first | ((try clear ht); (try clear h); (try clear y); (try clear x); (try clear eμ1); (try clear μ1); (try clear hrq); (try clear hμq); (try clear μq); (try clear hz9); (try clear ex9); (try clear e2); (try clear e1); (try clear c6_); (try clear hqb); (try clear hm9); (try clear hf); (try clear hexit45); (try clear hap); (try clear hn); (try clear hb2); (try clear hRs); (try clear hRc); (try clear hRl); (try clear hRf); omega) | omega), uz_s, hrq, show p1.toNat + i.toNat = (p1 + i).toNat by (first | ((try clear ht); (try clear h); (try clear y); (try clear x); (try clear eμ1); (try clear μ1); (try clear hrq); (try clear hμq); (try clear μq); (try clear hz9); (try clear ex9); (try clear e2); (try clear e1); (try clear c6_); (try clear hqb); (try clear hm9); (try clear hf); (try clear hexit45); (try clear hap); (try clear hn); (try clear hb2); (try clear hRs); (try clear hRc); (try clear hRl); (try clear hRf); omega) | omega)]
                    · rw [uz_n (by (first | ((try clear ht); (try clear h); (try clear y); (try clear x); (try clear eμ1); (try clear μ1); (try clear hrq); (try clear hμq); (try clear μq); (try clear hz9); (try clear ex9); (try clear e2); (try clear e1); (try clear c6_); (try clear hqb); (try clear hm9); (try clear hf); (try clear hexit45); (try clear hap); (try clear hn); (try clear hb2); (try clear hRs); (try clear hRc); (try clear hRl); (try clear hRf); omega) | omega))]; exact hv t (by (first | ((try clear h); (try clear y); (try clear x); (try clear eμ1); (try clear μ1); (try clear hrq); (try clear hμq); (try clear μq); (try clear hz9); (try clear ex9); (try clear e2); (try clear e1); (try clear c6_); (try clear hqb); (try clear hm9); (try clear hf); (try clear hexit45); (try clear hap); (try clear hn); (try clear hb2); (try clear hb1); (try clear hRs); (try clear hRc); (try clear hRl); (try clear hRf); omega) | omega))) (by (first | ((try clear h9); (try clear ht); (try clear t); (try clear h); (try clear y); (try clear x); (try clear eμ1); (try clear μ1); (try clear hrq); (try clear hμq); (try clear μq); (try clear hz9); (try clear ex9); (try clear e2); (try clear e1); (try clear hf); (try clear hi); (try clear hexit45); (try clear hap); (try clear hn); (try clear hb2); (try clear hb1); (try clear hRs); (try clear hRc); (try clear hRl); (try clear hRf); omega) | omega)) hP hS (lv_sub hl [0, 1, 2, 3, 4] rfl)
set_option maxHeartbeats 4000000 in
set_option maxRecDepth 100000 in
theorem s_RfuseInto (l : Launch) (dC : Nat → ClassId) (dI : Nat → Nat → Nat) (cI cZ cII cIII : ClassId) (h0 sz : Nat) (μ : va_M) (q : Nat) (rm : Nat) (p1 : Int) (p2 : Int) (n : Int) (hq : rowB q rm) (hsg : sgA μ (q + 1)) (hb1 : 0 ≤ p1 ∧ p1 + n ≤ rm) (hb2 : 0 ≤ p2 ∧ p2 + n ≤ rm) (hn : 0 ≤ n) (hap : p1 + n ≤ p2 ∨ p2 + n ≤ p1) : Met l yX4_fuseInto (Cond.code yX4_fuseInto cX4_fuseInto 5 none :: wsG) ({ frames := 2, cells := 0, slots := 0, locals := 35 } : Room) (va_Pc [.ref (h0 + q), .int (iZ (p1)), .int (iZ (p2)), .int (iZ (n))] (fun U => U.heap.size = sz ∧ va_P (dC, dI) vwCl (fw (sE cI cZ cII cIII h0) h0 233 μ) U.heap ∧ va_K (dC, dI) vwCl (sT cI cZ cII cIII) U ∧ xM U)) (va_Qv (fun (u : va_M) => fr (fun x y => x = q + 1 ∧ p1.toNat ≤ y ∧ y < p1.toNat + n.toNat) μ u ∧ ∀ t : Nat, t < n.toNat → u (q + 1) (p1.toNat + t) = sFu (μ (q + 1) (p1.toNat + t)) (μ (q + 1) (p2.toNat + t))) (fun u t => va_P (dC, dI) vwCl (fw (sE cI cZ cII cIII h0) h0 233 u) t.heap ∧ va_K (dC, dI) vwCl (sT cI cZ cII cIII) t) (fA h0 233 sz)) 0 0 (fA h0 233 sz) := by
  refine Met.ofW (cc := cX4_fuseInto) (maxL := 5) (ret := none) (by decide) rfl ?_
  intro p e s m args below meth c s₁ B hml hv
  obtain ⟨rfl, hsz, hP, hK, hM⟩ := hv
  have hx := B.exec
  have hb := B.bytes
  have hr := B.returns
  have hts : ∀ w ∈ wsG, w.before _ s = true := hG_of (atoms_spec (ws := (Cond.code yX4_fuseInto cX4_fuseInto 5 none :: wsG)) B.pre)
  have hown : s.vm.findClass RX4 = some m.cls := findClass_of_methodNamed B.named
  have hlocks := B.notSynchronized
  subst hsz
  have hS : va_S (fA h0 233 s.heap.size) s.heap s.heap [] := va_S.rf
  have hl := lv_entry ([.ref (h0 + q), .int (iZ (p1)), .int (iZ (p2)), .int (iZ (n))]) (n := 5) (Nat.le_of_ble_eq_true rfl)
  rw [lg_entry_eq]
  generalize (lg_sl ([.ref (h0 + q), .int (iZ (p1)), .int (iZ (p2)), .int (iZ (n))]) ++ List.replicate (5 - (lg_sl ([.ref (h0 + q), .int (iZ (p1)), .int (iZ (p2)), .int (iZ (n))])).length) Slot.unset).toArray = ls at hl ⊢
  have hl : lv_has ls 5 [(0, .ref (h0 + q)), (1, .int (iZ (p1))), (2, .int (iZ (p2))), (3, .int (iZ (n)))] := hl
  have hqb := rowB_b hq
  refine lv_iconst (v := iZ 0) hx hb dX4_fuseInto_0 rfl ?_
  refine lv_istore (lv' := [(4, .int (iZ (0))), (0, .ref (h0 + q)), (1, .int (iZ (p1))), (2, .int (iZ (p2))), (3, .int (iZ (n)))]) hx hb dX4_fuseInto_1 hl (by decide) rfl (fun ls hl => ?_)
  refine LX4_fuseInto_3 hx hb hml hown hts hK hM (Nat.le_of_ble_eq_true rfl) (Nat.le_of_ble_eq_true rfl) (Nat.le_of_ble_eq_true rfl) (Nat.le_of_ble_eq_true rfl) (μ) (q) (rm) (p1) (p2) (n) (by assumption) (by assumption) (by assumption) (by assumption) (by assumption) (by assumption) ?_ _ (0) μ s.heap [] ls (by (first | ((try clear hqb); (try clear hsz); (try clear s₁); (try clear hap); (try clear hb2); (try clear hb1); omega) | omega)) (by exact fr_rfl) (by intro t ht; exact absurd ht (Nat.not_lt_zero _)) (Nat.lt_succ_self _) hP hS (lv_sub hl [0, 4, 3, 2, 1] rfl)
  · intro i_2 μ2_ H locs ls qf_2 qv_2 hP hS hl
    have hl : lv_has ls 5 [] := hl
    exact W.vret hx hb hr (fun t9 ht9 hW9 => ⟨⟨μ2_, rfl, (by
                try dsimp only
                exact ⟨qf_2, qv_2⟩), by rw [ht9]; exact hP, va_K.moved hW9.alike hK⟩, hS.F ht9⟩) hS.2.2 dX4_fuseInto_45
set_option maxHeartbeats 4000000 in
set_option maxRecDepth 100000 in
theorem s_Rremove (l : Launch) (dC : Nat → ClassId) (dI : Nat → Nat → Nat) (cI cZ cII cIII : ClassId) (h0 sz : Nat) (μ : va_M) (q : Nat) (rm : Nat) (p1 : Int) (p2 : Int) (hq : rowB q rm) (hlen : 0 ≤ μ q 5 ∧ μ q 5 ≤ rm) (hb1 : 0 ≤ p1 ∧ p1 ≤ p2 ∧ p2 ≤ μ q 5) : Met l yX4_remove (Cond.code yX4_remove cX4_remove 3 none :: wsG) ({ frames := 1, cells := 0, slots := 0, locals := 48 } : Room) (va_Pc [.ref (h0 + q), .int (iZ (p1)), .int (iZ (p2))] (fun U => U.heap.size = sz ∧ va_P (dC, dI) vwCl (fw (sE cI cZ cII cIII h0) h0 233 μ) U.heap ∧ va_K (dC, dI) vwCl (sT cI cZ cII cIII) U ∧ xM U)) (va_Qv (fun (u : va_M) => u = uz (uc μ (q + 1) p2.toNat (q + 1) p1.toNat (μ q 5 - p2).toNat) q 5 (μ q 5 - (p2 - p1))) (fun u t => va_P (dC, dI) vwCl (fw (sE cI cZ cII cIII h0) h0 233 u) t.heap ∧ va_K (dC, dI) vwCl (sT cI cZ cII cIII) t) (fA h0 233 sz)) 0 0 (fA h0 233 sz) := by
  refine Met.ofW (cc := cX4_remove) (maxL := 3) (ret := none) (by decide) rfl ?_
  intro p e s m args below meth c s₁ B hml hv
  obtain ⟨rfl, hsz, hP, hK, hM⟩ := hv
  have hx := B.exec
  have hb := B.bytes
  have hr := B.returns
  have hts : ∀ w ∈ wsG, w.before _ s = true := hG_of (atoms_spec (ws := (Cond.code yX4_remove cX4_remove 3 none :: wsG)) B.pre)
  have hown : s.vm.findClass RX4 = some m.cls := findClass_of_methodNamed B.named
  have hlocks := B.notSynchronized
  subst hsz
  have hS : va_S (fA h0 233 s.heap.size) s.heap s.heap [] := va_S.rf
  have hl := lv_entry ([.ref (h0 + q), .int (iZ (p1)), .int (iZ (p2))]) (n := 3) (Nat.le_of_ble_eq_true rfl)
  rw [lg_entry_eq]
  generalize (lg_sl ([.ref (h0 + q), .int (iZ (p1)), .int (iZ (p2))]) ++ List.replicate (3 - (lg_sl ([.ref (h0 + q), .int (iZ (p1)), .int (iZ (p2))])).length) Slot.unset).toArray = ls at hl ⊢
  have hl : lv_has ls 3 [(0, .ref (h0 + q)), (1, .int (iZ (p1))), (2, .int (iZ (p2)))] := hl
  have hqb := rowB_b hq
  refine lv_aload_n hx hb dX4_remove_0 rfl (lv_at hl 0 rfl) ?_
  refine fz_get (D := (dC, dI)) (ci := 4) (v := .ref (h0 + (q + 1))) (C := RX4) (T := TX4) (N := 8) hx hb hts inG4 hown hK hP (k := q) (by (first | ((try clear hsz); (try clear s₁); (try clear hb1); (try clear hlen); omega) | omega)) (F := (sRF h0 q)) (sE_rowO hq) rfl 0 (by decide) (hts _ k77) (fun _ h9 => h9) rfl dX4_remove_1 ?_
  refine lv_iload_n hx hb dX4_remove_4 rfl (lv_at hl 2 rfl) ?_
  refine lv_aload_n hx hb dX4_remove_5 rfl (lv_at hl 0 rfl) ?_
  refine fz_get (D := (dC, dI)) (ci := 4) (v := .ref (h0 + (q + 1))) (C := RX4) (T := TX4) (N := 8) hx hb hts inG4 hown hK hP (k := q) (by (first | ((try clear hsz); (try clear s₁); (try clear hb1); (try clear hlen); omega) | omega)) (F := (sRF h0 q)) (sE_rowO hq) rfl 0 (by decide) (hts _ k77) (fun _ h9 => h9) rfl dX4_remove_6 ?_
  refine lv_iload_n hx hb dX4_remove_9 rfl (lv_at hl 1 rfl) ?_
  refine lv_aload_n hx hb dX4_remove_10 rfl (lv_at hl 0 rfl) ?_
  refine fz_get (D := (dC, dI)) (ci := 4) (v := .int (iZ (μ q 5))) (C := RX4) (T := TX4) (N := 8) hx hb hts inG4 hown hK hP (k := q) (by (first | ((try clear hsz); (try clear s₁); (try clear hb1); (try clear hlen); omega) | omega)) (F := (sRF h0 q)) (sE_rowO hq) rfl 5 (by decide) (hts _ k92) (fun _ h9 => h9) rfl dX4_remove_11 ?_
  refine lv_iload_n hx hb dX4_remove_14 rfl (lv_at hl 2 rfl) ?_
  refine lv_isub hx hb dX4_remove_15 ?_
  refine lv_topi (fun x9 ex9 => ?_)
  obtain rfl : x9 = iZ ((μ q 5) - p2) := ex9.trans (iZ_sub _ _)
  refine fz_copy (k0 := (q + 1)) (k1 := (q + 1)) (n0 := rm) (n1 := rm) (sp := p2) (dp := p1) (n := ((μ q 5) - p2)) hx hb (hml.trans hl.1.symm) hown (hts _ k463) (hts _ k465) (hts _ k464) (hts _ k19) hK hP fA_in hS (by (first | ((try clear ex9); (try clear hsz); (try clear s₁); (try clear hb1); (try clear hlen); omega) | omega)) (by (first | ((try clear ex9); (try clear hsz); (try clear s₁); (try clear hb1); (try clear hlen); omega) | omega)) (sE_rowA (r := 1) hq (by decide)) (sE_rowA (r := 1) hq (by decide)) rfl (by (first | ((try clear ex9); (try clear hsz); (try clear s₁); (try clear hb1); (try clear hlen); omega) | omega)) (by (first | ((try clear ex9); (try clear hsz); (try clear s₁); (try clear hb1); (try clear hlen); omega) | omega)) (by (first | ((try clear ex9); (try clear hqb); (try clear hsz); (try clear s₁); (try clear hlen); omega) | omega)) (by (first | ((try clear ex9); (try clear hqb); (try clear hsz); (try clear s₁); (try clear hlen); omega) | omega)) (by (first | ((try clear ex9); (try clear hqb); (try clear hsz); (try clear s₁); (try clear hlen); omega) | omega)) (by (first | ((try clear ex9); (try clear hqb); (try clear hsz); (try clear s₁); (try clear hb1); omega) | omega)) (by (first | ((try clear ex9); (try clear hqb); (try clear hsz); (try clear s₁); omega) | omega)) (Nat.le_of_ble_eq_true rfl) (Nat.le_of_ble_eq_true rfl) dX4_remove_16 (fun H locs hP hS => ?_)
  obtain ⟨μ1, eμ1⟩ : ∃ x : va_M, x = uc μ (q + 1) (p2).toNat (q + 1) (p1).toNat ((μ q 5) - p2).toNat := ⟨_, rfl⟩
  rw [← eμ1] at hP
  have ec5 : μ1 q 5 = μ q 5 := by rw [eμ1, uc_n (by (first | ((try clear ec5); (try clear uc); (try clear x); (try clear eμ1); (try clear μ1); (try clear ex9); (try clear hqb); (try clear hsz); (try clear s₁); (try clear hb1); (try clear hlen); omega) | omega))]
  have ecu := eμ1
  refine lv_aload_n hx hb dX4_remove_19 rfl (lv_at hl 0 rfl) ?_
  refine lv_dup hx hb dX4_remove_20 rfl ?_
  refine fz_get (D := (dC, dI)) (ci := 4) (v := .int (iZ (μ1 q 5))) (C := RX4) (T := TX4) (N := 8) hx hb hts inG4 hown hK hP (k := q) (by (first | ((try clear ecu); (try clear ec5); (try clear uc); (try clear x); (try clear eμ1); (try clear ex9); (try clear hsz); (try clear s₁); (try clear hb1); (try clear hlen); omega) | omega)) (F := (sRF h0 q)) (sE_rowO hq) rfl 5 (by decide) (hts _ k92) (fun _ h9 => h9) rfl dX4_remove_21 ?_
  refine lv_iload_n hx hb dX4_remove_24 rfl (lv_at hl 2 rfl) ?_
  refine lv_iload_n hx hb dX4_remove_25 rfl (lv_at hl 1 rfl) ?_
  refine lv_isub hx hb dX4_remove_26 ?_
  refine lv_topi (fun x9 ex9 => ?_)
  obtain rfl : x9 = iZ (p2 - p1) := ex9.trans (iZ_sub _ _)
  refine lv_isub hx hb dX4_remove_27 ?_
  refine lv_topi (fun x9 ex9 => ?_)
  obtain rfl : x9 = iZ ((μ1 q 5) - (p2 - p1)) := ex9.trans (iZ_sub _ _)
  refine fz_put (D := (dC, dI)) (ci := 4) (ty := .int) (z := ((μ1 q 5) - (p2 - p1))) (C := RX4) (T := TX4) (N := 8) hx hb hts inG4 tyX4 tyX4_ok nmX4 hown hK hP fA_in hS (k := q) (by (first | ((try clear ex9); (try clear ecu); (try clear ec5); (try clear uc); (try clear x); (try clear eμ1); (try clear hsz); (try clear s₁); (try clear hb1); (try clear hlen); omega) | omega)) (F := (sRF h0 q)) (sE_rowO hq) rfl 5 (by decide) (hts _ k92) (fun _ h9 => h9) rfl (by decide +kernel) rfl rfl (fun _ => Nat.le_of_ble_eq_true rfl) (fun _ _ => rfl) dX4_remove_28 (fun H locs hP hS => ?_)
  obtain ⟨μ2, eμ2⟩ : ∃ x : va_M, x = uz μ1 q 5 ((μ1 q 5) - (p2 - p1)) := ⟨_, rfl⟩
  rw [← eμ2] at hP
  exact W.vret hx hb hr (fun t9 ht9 hW9 => ⟨⟨μ2, rfl, (by
            try dsimp only
            rw [eμ2, ec5, ecu]), by rw [ht9]; exact hP, va_K.moved hW9.alike hK⟩, hS.F ht9⟩) hS.2.2 dX4_remove_31
set_option maxHeartbeats 4000000 in
set_option maxRecDepth 100000 in
theorem s_Rinsert (l : Launch) (dC : Nat → ClassId) (dI : Nat → Nat → Nat) (cI cZ cII cIII : ClassId) (h0 sz : Nat) (μ : va_M) (q : Nat) (rm : Nat) (p1 : Int) (sg : Int) (hq : rowB q rm) (hlen : 0 ≤ μ q 5 ∧ μ q 5 ≤ rm) (hb1 : 0 ≤ p1 ∧ p1 ≤ μ q 5) : Met l yX4_insert (Cond.code yX4_insert cX4_insert 3 none :: wsG) ({ frames := 1, cells := 0, slots := 0, locals := 48 } : Room) (va_Pc [.ref (h0 + q), .int (iZ (p1)), .int (iZ (sg))] (fun U => U.heap.size = sz ∧ va_P (dC, dI) vwCl (fw (sE cI cZ cII cIII h0) h0 233 μ) U.heap ∧ va_K (dC, dI) vwCl (sT cI cZ cII cIII) U ∧ xM U)) (va_Qv (fun (u : va_M) => (μ q 5 < rm → u = uz (uz (uc μ (q + 1) p1.toNat (q + 1) (p1 + 1).toNat (μ q 5 - p1).toNat) (q + 1) p1.toNat sg) q 5 (μ q 5 + 1)) ∧ (¬ μ q 5 < rm → u = uz μ q 7 1)) (fun u t => va_P (dC, dI) vwCl (fw (sE cI cZ cII cIII h0) h0 233 u) t.heap ∧ va_K (dC, dI) vwCl (sT cI cZ cII cIII) t) (fA h0 233 sz)) 0 0 (fA h0 233 sz) := by
  refine Met.ofW (cc := cX4_insert) (maxL := 3) (ret := none) (by decide) rfl ?_
  intro p e s m args below meth c s₁ B hml hv
  obtain ⟨rfl, hsz, hP, hK, hM⟩ := hv
  have hx := B.exec
  have hb := B.bytes
  have hr := B.returns
  have hts : ∀ w ∈ wsG, w.before _ s = true := hG_of (atoms_spec (ws := (Cond.code yX4_insert cX4_insert 3 none :: wsG)) B.pre)
  have hown : s.vm.findClass RX4 = some m.cls := findClass_of_methodNamed B.named
  have hlocks := B.notSynchronized
  subst hsz
  have hS : va_S (fA h0 233 s.heap.size) s.heap s.heap [] := va_S.rf
  have hl := lv_entry ([.ref (h0 + q), .int (iZ (p1)), .int (iZ (sg))]) (n := 3) (Nat.le_of_ble_eq_true rfl)
  rw [lg_entry_eq]
  generalize (lg_sl ([.ref (h0 + q), .int (iZ (p1)), .int (iZ (sg))]) ++ List.replicate (3 - (lg_sl ([.ref (h0 + q), .int (iZ (p1)), .int (iZ (sg))])).length) Slot.unset).toArray = ls at hl ⊢
  have hl : lv_has ls 3 [(0, .ref (h0 + q)), (1, .int (iZ (p1))), (2, .int (iZ (sg)))] := hl
  have hqb := rowB_b hq
  refine lv_aload_n hx hb dX4_insert_0 rfl (lv_at hl 0 rfl) ?_
  refine fz_get (D := (dC, dI)) (ci := 4) (v := .int (iZ (μ q 5))) (C := RX4) (T := TX4) (N := 8) hx hb hts inG4 hown hK hP (k := q) (by (first | ((try clear hsz); (try clear s₁); (try clear hb1); (try clear hlen); omega) | omega)) (F := (sRF h0 q)) (sE_rowO hq) rfl 5 (by decide) (hts _ k92) (fun _ h9 => h9) rfl dX4_insert_1 ?_
  refine lv_aload_n hx hb dX4_insert_4 rfl (lv_at hl 0 rfl) ?_
  refine fz_get (D := (dC, dI)) (ci := 4) (v := .ref (h0 + (q + 1))) (C := RX4) (T := TX4) (N := 8) hx hb hts inG4 hown hK hP (k := q) (by (first | ((try clear hsz); (try clear s₁); (try clear hb1); (try clear hlen); omega) | omega)) (F := (sRF h0 q)) (sE_rowO hq) rfl 0 (by decide) (hts _ k77) (fun _ h9 => h9) rfl dX4_insert_5 ?_
  refine fz_len (k := (q + 1)) (n := rm) hx hb hK hP 0 (by (first | ((try clear hsz); (try clear s₁); (try clear hb1); (try clear hlen); omega) | omega)) (sE_rowA (r := 1) hq (by decide)) rfl dX4_insert_8 ?_
  refine fz_icmp_ge (tgt := 53) (by constructor <;> (first | ((try clear hsz); (try clear s₁); (try clear hb1); omega) | omega)) (by constructor <;> (first | ((try clear hsz); (try clear s₁); (try clear hb1); (try clear hlen); omega) | omega)) hx hb dX4_insert_9 (by decide) (fun c9_ => ?_) (fun c9_ => ?_)
  · refine lv_aload_n hx hb dX4_insert_53 rfl (lv_at hl 0 rfl) ?_
    refine lv_iconst (v := iZ 1) hx hb dX4_insert_54 rfl ?_
    refine fz_put (D := (dC, dI)) (ci := 4) (ty := .boolean) (z := 1) (C := RX4) (T := TX4) (N := 8) hx hb hts inG4 tyX4 tyX4_ok nmX4 hown hK hP fA_in hS (k := q) (by (first | ((try clear c9_); (try clear hsz); (try clear s₁); (try clear hb1); (try clear hlen); omega) | omega)) (F := (sRF h0 q)) (sE_rowO hq) rfl 7 (by decide) (hts _ k103) (fun _ h9 => h9) rfl (by decide +kernel) (fz_narZ (by decide)) rfl (fun _ => Nat.le_of_ble_eq_true rfl) (fun _ _ => rfl) dX4_insert_55 (fun H locs hP hS => ?_)
    obtain ⟨μ1, eμ1⟩ : ∃ x : va_M, x = uz μ q 7 (1) := ⟨_, rfl⟩
    rw [← eμ1] at hP
    exact W.vret hx hb hr (fun t9 ht9 hW9 => ⟨⟨μ1, rfl, (by
                try dsimp only
                exact ⟨fun h9 => absurd h9 (by (first | ((try clear x); (try clear eμ1); (try clear μ1); (try clear hqb); (try clear hsz); (try clear s₁); (try clear hb1); omega) | omega)), fun h9 => by rw [eμ1]⟩), by rw [ht9]; exact hP, va_K.moved hW9.alike hK⟩, hS.F ht9⟩) hS.2.2 dX4_insert_58
  · refine lv_aload_n hx hb dX4_insert_12 rfl (lv_at hl 0 rfl) ?_
    refine fz_get (D := (dC, dI)) (ci := 4) (v := .ref (h0 + (q + 1))) (C := RX4) (T := TX4) (N := 8) hx hb hts inG4 hown hK hP (k := q) (by (first | ((try clear c9_); (try clear hsz); (try clear s₁); (try clear hb1); (try clear hlen); omega) | omega)) (F := (sRF h0 q)) (sE_rowO hq) rfl 0 (by decide) (hts _ k77) (fun _ h9 => h9) rfl dX4_insert_13 ?_
    refine lv_iload_n hx hb dX4_insert_16 rfl (lv_at hl 1 rfl) ?_
    refine lv_aload_n hx hb dX4_insert_17 rfl (lv_at hl 0 rfl) ?_
    refine fz_get (D := (dC, dI)) (ci := 4) (v := .ref (h0 + (q + 1))) (C := RX4) (T := TX4) (N := 8) hx hb hts inG4 hown hK hP (k := q) (by (first | ((try clear c9_); (try clear hsz); (try clear s₁); (try clear hb1); (try clear hlen); omega) | omega)) (F := (sRF h0 q)) (sE_rowO hq) rfl 0 (by decide) (hts _ k77) (fun _ h9 => h9) rfl dX4_insert_18 ?_
    refine lv_iload_n hx hb dX4_insert_21 rfl (lv_at hl 1 rfl) ?_
    refine lv_iconst (v := iZ 1) hx hb dX4_insert_22 rfl ?_
    refine lv_iadd hx hb dX4_insert_23 ?_
    refine lv_topi (fun x9 ex9 => ?_)
    obtain rfl : x9 = iZ (p1 + 1) := ex9.trans (iZ_add _ _)
    refine lv_aload_n hx hb dX4_insert_24 rfl (lv_at hl 0 rfl) ?_
    refine fz_get (D := (dC, dI)) (ci := 4) (v := .int (iZ (μ q 5))) (C := RX4) (T := TX4) (N := 8) hx hb hts inG4 hown hK hP (k := q) (by (first | ((try clear ex9); (try clear c9_); (try clear hsz); (try clear s₁); (try clear hb1); (try clear hlen); omega) | omega)) (F := (sRF h0 q)) (sE_rowO hq) rfl 5 (by decide) (hts _ k92) (fun _ h9 => h9) rfl dX4_insert_25 ?_
    refine lv_iload_n hx hb dX4_insert_28 rfl (lv_at hl 1 rfl) ?_
    refine lv_isub hx hb dX4_insert_29 ?_
    refine lv_topi (fun x9 ex9 => ?_)
    obtain rfl : x9 = iZ ((μ q 5) - p1) := ex9.trans (iZ_sub _ _)
    refine fz_copy (k0 := (q + 1)) (k1 := (q + 1)) (n0 := rm) (n1 := rm) (sp := p1) (dp := (p1 + 1)) (n := ((μ q 5) - p1)) hx hb (hml.trans hl.1.symm) hown (hts _ k463) (hts _ k465) (hts _ k464) (hts _ k19) hK hP fA_in hS (by (first | ((try clear ex9); (try clear c9_); (try clear hsz); (try clear s₁); (try clear hb1); (try clear hlen); omega) | omega)) (by (first | ((try clear ex9); (try clear c9_); (try clear hsz); (try clear s₁); (try clear hb1); (try clear hlen); omega) | omega)) (sE_rowA (r := 1) hq (by decide)) (sE_rowA (r := 1) hq (by decide)) rfl (by (first | ((try clear ex9); (try clear c9_); (try clear hsz); (try clear s₁); (try clear hb1); (try clear hlen); omega) | omega)) (by (first | ((try clear ex9); (try clear c9_); (try clear hsz); (try clear s₁); (try clear hb1); (try clear hlen); omega) | omega)) (by (first | ((try clear ex9); (try clear c9_); (try clear hqb); (try clear hsz); (try clear s₁); (try clear hlen); omega) | omega)) (by (first | ((try clear ex9); (try clear c9_); (try clear hqb); (try clear hsz); (try clear s₁); (try clear hlen); omega) | omega)) (by (first | ((try clear ex9); (try clear c9_); (try clear hqb); (try clear hsz); (try clear s₁); (try clear hlen); omega) | omega)) (by (first | ((try clear ex9); (try clear hqb); (try clear hsz); (try clear s₁); (try clear hb1); (try clear hlen); omega) | omega)) (by (first | ((try clear ex9); (try clear hqb); (try clear hsz); (try clear s₁); (try clear hb1); (try clear hlen); omega) | omega)) (Nat.le_of_ble_eq_true rfl) (Nat.le_of_ble_eq_true rfl) dX4_insert_30 (fun H locs hP hS => ?_)
    obtain ⟨μ2, eμ2⟩ : ∃ x : va_M, x = uc μ (q + 1) (p1).toNat (q + 1) (p1 + 1).toNat ((μ q 5) - p1).toNat := ⟨_, rfl⟩
    rw [← eμ2] at hP
    have ec5 : μ2 q 5 = μ q 5 := by rw [eμ2, uc_n (by (first | ((try clear ec5); (try clear uc); (try clear x); (try clear eμ2); (try clear μ2); (try clear ex9); (try clear c9_); (try clear hqb); (try clear hsz); (try clear s₁); (try clear hb1); (try clear hlen); omega) | omega))]
    have ecu := eμ2
    refine lv_aload_n hx hb dX4_insert_33 rfl (lv_at hl 0 rfl) ?_
    refine fz_get (D := (dC, dI)) (ci := 4) (v := .ref (h0 + (q + 1))) (C := RX4) (T := TX4) (N := 8) hx hb hts inG4 hown hK hP (k := q) (by (first | ((try clear ecu); (try clear ec5); (try clear uc); (try clear x); (try clear eμ2); (try clear ex9); (try clear c9_); (try clear hsz); (try clear s₁); (try clear hb1); (try clear hlen); omega) | omega)) (F := (sRF h0 q)) (sE_rowO hq) rfl 0 (by decide) (hts _ k77) (fun _ h9 => h9) rfl dX4_insert_34 ?_
    refine lv_iload_n hx hb dX4_insert_37 rfl (lv_at hl 1 rfl) ?_
    refine lv_iload_n hx hb dX4_insert_38 rfl (lv_at hl 2 rfl) ?_
    refine fz_st (k := (q + 1)) (n := rm) (i := p1) (z := sg) hx hb hK hP fA_in hS 0 (by (first | ((try clear ecu); (try clear ec5); (try clear uc); (try clear x); (try clear eμ2); (try clear ex9); (try clear c9_); (try clear hsz); (try clear s₁); (try clear hb1); (try clear hlen); omega) | omega)) (sE_rowA (r := 1) hq (by decide)) rfl ⟨by (first | ((try clear ecu); (try clear ec5); (try clear uc); (try clear x); (try clear eμ2); (try clear ex9); (try clear c9_); (try clear hqb); (try clear hsz); (try clear s₁); (try clear hlen); omega) | omega), by (first | ((try clear ecu); (try clear uc); (try clear x); (try clear eμ2); (try clear ex9); (try clear hqb); (try clear hsz); (try clear s₁); (try clear hlen); omega) | omega)⟩ (by (first | ((try clear ecu); (try clear ec5); (try clear uc); (try clear x); (try clear eμ2); (try clear ex9); (try clear c9_); (try clear hsz); (try clear s₁); (try clear hb1); (try clear hlen); omega) | omega)) dX4_insert_39 (fun H locs hP hS => ?_)
    obtain ⟨μ3, eμ3⟩ : ∃ x : va_M, x = uz μ2 (q + 1) (p1).toNat (sg) := ⟨_, rfl⟩
    rw [← eμ3] at hP
    refine lv_aload_n hx hb dX4_insert_40 rfl (lv_at hl 0 rfl) ?_
    refine lv_dup hx hb dX4_insert_41 rfl ?_
    refine fz_get (D := (dC, dI)) (ci := 4) (v := .int (iZ (μ3 q 5))) (C := RX4) (T := TX4) (N := 8) hx hb hts inG4 hown hK hP (k := q) (by (first | ((try clear x); (try clear eμ3); (try clear μ3); (try clear ecu); (try clear ec5); (try clear uc); (try clear eμ2); (try clear ex9); (try clear c9_); (try clear hsz); (try clear s₁); (try clear hb1); (try clear hlen); omega) | omega)) (F := (sRF h0 q)) (sE_rowO hq) rfl 5 (by decide) (hts _ k92) (fun _ h9 => h9) rfl dX4_insert_42 ?_
    rw [show μ3 q 5 = μ2 q 5 from by rw [eμ3, uz_n (by (first | ((try clear x); (try clear eμ3); (try clear μ3); (try clear ecu); (try clear ec5); (try clear uc); (try clear eμ2); (try clear ex9); (try clear c9_); (try clear hqb); (try clear hsz); (try clear s₁); (try clear hb1); (try clear hlen); omega) | omega))]]
    refine lv_iconst (v := iZ 1) hx hb dX4_insert_45 rfl ?_
    refine lv_iadd hx hb dX4_insert_46 ?_
    refine lv_topi (fun x9 ex9 => ?_)
    obtain rfl : x9 = iZ ((μ2 q 5) + 1) := ex9.trans (iZ_add _ _)
    refine fz_put (D := (dC, dI)) (ci := 4) (ty := .int) (z := ((μ2 q 5) + 1)) (C := RX4) (T := TX4) (N := 8) hx hb hts inG4 tyX4 tyX4_ok nmX4 hown hK hP fA_in hS (k := q) (by (first | ((try clear ex9); (try clear x); (try clear eμ3); (try clear μ3); (try clear ecu); (try clear ec5); (try clear uc); (try clear eμ2); (try clear c9_); (try clear hsz); (try clear s₁); (try clear hb1); (try clear hlen); omega) | omega)) (F := (sRF h0 q)) (sE_rowO hq) rfl 5 (by decide) (hts _ k92) (fun _ h9 => h9) rfl (by decide +kernel) rfl rfl (fun _ => Nat.le_of_ble_eq_true rfl) (fun _ _ => rfl) dX4_insert_47 (fun H locs hP hS => ?_)
    obtain ⟨μ4, eμ4⟩ : ∃ x : va_M, x = uz μ3 q 5 ((μ2 q 5) + 1) := ⟨_, rfl⟩
    rw [← eμ4] at hP
    refine lv_goto (tgt := 58) hx hb dX4_insert_50 (by decide) ?_
    exact W.vret hx hb hr (fun t9 ht9 hW9 => ⟨⟨μ4, rfl, (by
                try dsimp only
                exact ⟨fun h9 => by rw [eμ4, eμ3, ec5, ecu], fun h9 => absurd h9 (by (first | ((try clear μ3); (try clear x); (try clear eμ4); (try clear μ4); (try clear ex9); (try clear eμ3); (try clear ecu); (try clear uc); (try clear eμ2); (try clear hqb); (try clear hsz); (try clear s₁); (try clear hb1); (try clear hlen); omega) | omega))⟩), by rw [ht9]; exact hP, va_K.moved hW9.alike hK⟩, hS.F ht9⟩) hS.2.2 dX4_insert_58

set_option maxRecDepth 100000 in
theorem k406 : (Cond.methodLink "PageSkeleton$Row" (52 : Nat) ({ cls := "PageSkeleton$Row", name := "empty", desc := "()V" } : MethodName)) ∈ wsG := wsG_a2 166 rfl rfl
set_option maxRecDepth 100000 in
theorem k407 : (Cond.instanceMethod ({ cls := "PageSkeleton$Row", name := "empty", desc := "()V" } : MethodName)) ∈ wsG := wsG_a2 167 rfl rfl
set_option maxRecDepth 100000 in
theorem k408 : (Cond.selects "PageSkeleton$Row" ({ cls := "PageSkeleton$Row", name := "empty", desc := "()V" } : MethodName) ({ cls := "PageSkeleton$Row", name := "empty", desc := "()V" } : MethodName)) ∈ wsG := wsG_a2 168 rfl rfl
set_option maxRecDepth 100000 in
theorem k409 : (Cond.code ({ cls := "PageSkeleton$Row", name := "empty", desc := "()V" } : MethodName) prog_6_method_2_code (1 : Nat) (Option.none : Option Jvm.ClassFile.FieldType)) ∈ wsG := wsG_a2 169 rfl rfl
set_option maxRecDepth 100000 in
theorem k410 : (Cond.methodLink "PageSkeleton$Row" (44 : Nat) ({ cls := "PageSkeleton$Row", name := "put", desc := "(I)V" } : MethodName)) ∈ wsG := wsG_a2 170 rfl rfl
set_option maxRecDepth 100000 in
theorem k411 : (Cond.instanceMethod ({ cls := "PageSkeleton$Row", name := "put", desc := "(I)V" } : MethodName)) ∈ wsG := wsG_a2 171 rfl rfl
set_option maxRecDepth 100000 in
theorem k412 : (Cond.selects "PageSkeleton$Row" ({ cls := "PageSkeleton$Row", name := "put", desc := "(I)V" } : MethodName) ({ cls := "PageSkeleton$Row", name := "put", desc := "(I)V" } : MethodName)) ∈ wsG := wsG_a2 172 rfl rfl
set_option maxRecDepth 100000 in
theorem k413 : (Cond.code ({ cls := "PageSkeleton$Row", name := "put", desc := "(I)V" } : MethodName) prog_6_method_3_code (2 : Nat) (Option.none : Option Jvm.ClassFile.FieldType)) ∈ wsG := wsG_a2 173 rfl rfl
set_option maxRecDepth 100000 in
theorem k414 : (Cond.methodLink "PageSkeleton$Row" (55 : Nat) ({ cls := "PageSkeleton$Row", name := "seal", desc := "()V" } : MethodName)) ∈ wsG := wsG_a2 174 rfl rfl
set_option maxRecDepth 100000 in
theorem k415 : (Cond.instanceMethod ({ cls := "PageSkeleton$Row", name := "seal", desc := "()V" } : MethodName)) ∈ wsG := wsG_a2 175 rfl rfl
set_option maxRecDepth 100000 in
theorem k416 : (Cond.selects "PageSkeleton$Row" ({ cls := "PageSkeleton$Row", name := "seal", desc := "()V" } : MethodName) ({ cls := "PageSkeleton$Row", name := "seal", desc := "()V" } : MethodName)) ∈ wsG := wsG_a2 176 rfl rfl
set_option maxRecDepth 100000 in
theorem k417 : (Cond.code ({ cls := "PageSkeleton$Row", name := "seal", desc := "()V" } : MethodName) prog_6_method_7_code (5 : Nat) (Option.none : Option Jvm.ClassFile.FieldType)) ∈ wsG := wsG_a2 177 rfl rfl
theorem dX4_load_0 : decode cX4_load 0 = .ok (.aload_n 0, 1) := by decide +kernel
theorem dX4_load_1 : decode cX4_load 1 = .ok (.invokevirtual 52, 3) := by decide +kernel
theorem dX4_load_4 : decode cX4_load 4 = .ok (.iconst 0, 1) := by decide +kernel
theorem dX4_load_5 : decode cX4_load 5 = .ok (.istore_n 3, 1) := by decide +kernel
theorem dX4_load_6 : decode cX4_load 6 = .ok (.iload_n 3, 1) := by decide +kernel
theorem dX4_load_7 : decode cX4_load 7 = .ok (.iload_n 2, 1) := by decide +kernel
theorem dX4_load_8 : decode cX4_load 8 = .ok (.if_icmp .ge 22, 3) := by decide +kernel
theorem dX4_load_11 : decode cX4_load 11 = .ok (.iload_n 3, 1) := by decide +kernel
theorem dX4_load_12 : decode cX4_load 12 = .ok (.aload_n 1, 1) := by decide +kernel
theorem dX4_load_13 : decode cX4_load 13 = .ok (.arraylength, 1) := by decide +kernel
theorem dX4_load_14 : decode cX4_load 14 = .ok (.if_icmp .ge 16, 3) := by decide +kernel
theorem dX4_load_17 : decode cX4_load 17 = .ok (.aload_n 0, 1) := by decide +kernel
theorem dX4_load_18 : decode cX4_load 18 = .ok (.aload_n 1, 1) := by decide +kernel
theorem dX4_load_19 : decode cX4_load 19 = .ok (.iload_n 3, 1) := by decide +kernel
theorem dX4_load_20 : decode cX4_load 20 = .ok (.iaload, 1) := by decide +kernel
theorem dX4_load_21 : decode cX4_load 21 = .ok (.invokevirtual 44, 3) := by decide +kernel
theorem dX4_load_24 : decode cX4_load 24 = .ok (.iinc 3 1, 3) := by decide +kernel
theorem dX4_load_27 : decode cX4_load 27 = .ok (.goto (-21), 3) := by decide +kernel
theorem dX4_load_30 : decode cX4_load 30 = .ok (.aload_n 0, 1) := by decide +kernel
theorem dX4_load_31 : decode cX4_load 31 = .ok (.invokevirtual 55, 3) := by decide +kernel
theorem dX4_load_34 : decode cX4_load 34 = .ok (.return_, 1) := by decide +kernel
/-! a row loaded from a line of signs -/
theorem SA_to {μ u : va_M} {c c2 : Nat} : ∀ (w : Rw) (p p2 : Nat), SA μ c w p → (∀ d, d < sL w → u c2 (p2 + d) = μ c (p + d)) → SA u c2 w p2
  | .leaf, _, _, _, _ => trivial
  | .inner z k v l r, p, p2, ⟨h1, h2, h3⟩, hf => by
    obtain ⟨d, hd, hd1, hd2⟩ := sL_d k l
    have hs : sL (Std.DTreeMap.Internal.Impl.inner z k v l r : Rw) = d + sL r := by rw [sL, hd]
    rw [hs] at hf
    unfold SA
    rw [hd] at h3 ⊢
    refine ⟨(hf 0 (by omega)).trans h1, fun h9 => ?_, SA_to r _ _ h3 (fun y hy => by rw [Nat.add_assoc, Nat.add_assoc]; exact hf _ (by omega))⟩
    have hd3 := hd2 h9
    obtain ⟨g1, g2⟩ := h2 h9
    refine ⟨SA_to l _ _ g1 (fun y hy => by rw [Nat.add_assoc, Nat.add_assoc]; exact hf _ (by omega)), ?_⟩
    rw [Nat.add_assoc] at g2 ⊢
    exact (hf _ (by omega)).trans g2
def rcut (rm : Nat) (w : Rw) : Rw := if sL w ≤ rm then w else .leaf
def LEq (q x y : Nat) : Prop := q ≤ x ∧ x ≤ q + 5
def LEw (q n x y : Nat) : Prop := LEq q x y ∧ (x = q + 2 → y < n)

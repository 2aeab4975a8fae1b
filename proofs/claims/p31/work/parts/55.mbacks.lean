set_option maxRecDepth 100000 in
theorem k1188 : (Cond.fieldLink "PageSkeletonModel" (325 : Nat) "PageSkeletonModel" "hasSkeleton" "Z") ∈ wsG := wsG_a5 228 rfl rfl
set_option maxRecDepth 100000 in
theorem k1480 : (Cond.methodLink "PageSkeletonModel" (322 : Nat) ({ cls := "PageSkeletonModel", name := "dropsOldest", desc := "()V" } : MethodName)) ∈ wsG := wsG_a7 40 rfl rfl
set_option maxRecDepth 100000 in
theorem k1482 : (Cond.instanceMethod ({ cls := "PageSkeletonModel", name := "dropsOldest", desc := "()V" } : MethodName)) ∈ wsG := wsG_a7 42 rfl rfl
set_option maxRecDepth 100000 in
theorem k1483 : (Cond.code ({ cls := "PageSkeletonModel", name := "dropsOldest", desc := "()V" } : MethodName) prog_12_method_55_code (2 : Nat) (Option.none : Option Jvm.ClassFile.FieldType)) ∈ wsG := wsG_a7 43 rfl rfl
set_option maxRecDepth 100000 in
theorem ks_yX10_dropsOldest : Cond.selects RX10 yX10_dropsOldest yX10_dropsOldest ∈ wsG := wsG_p 79 rfl rfl
theorem dX10_dropsOldest_0 : decode cX10_dropsOldest 0 = .ok (.iconst 1, 1) := by decide +kernel
theorem dX10_dropsOldest_1 : decode cX10_dropsOldest 1 = .ok (.istore_n 1, 1) := by decide +kernel
theorem dX10_dropsOldest_2 : decode cX10_dropsOldest 2 = .ok (.iload_n 1, 1) := by decide +kernel
theorem dX10_dropsOldest_3 : decode cX10_dropsOldest 3 = .ok (.bipush 16, 2) := by decide +kernel
theorem dX10_dropsOldest_5 : decode cX10_dropsOldest 5 = .ok (.if_icmp .ge 45, 3) := by decide +kernel
theorem dX10_dropsOldest_8 : decode cX10_dropsOldest 8 = .ok (.aload_n 0, 1) := by decide +kernel
theorem dX10_dropsOldest_9 : decode cX10_dropsOldest 9 = .ok (.iload_n 1, 1) := by decide +kernel
theorem dX10_dropsOldest_10 : decode cX10_dropsOldest 10 = .ok (.iconst 1, 1) := by decide +kernel
theorem dX10_dropsOldest_11 : decode cX10_dropsOldest 11 = .ok (.iadd, 1) := by decide +kernel
theorem dX10_dropsOldest_12 : decode cX10_dropsOldest 12 = .ok (.iload_n 1, 1) := by decide +kernel
theorem dX10_dropsOldest_13 : decode cX10_dropsOldest 13 = .ok (.invokevirtual 241, 3) := by decide +kernel
theorem dX10_dropsOldest_16 : decode cX10_dropsOldest 16 = .ok (.aload_n 0, 1) := by decide +kernel
theorem dX10_dropsOldest_17 : decode cX10_dropsOldest 17 = .ok (.getfield 57, 3) := by decide +kernel
theorem dX10_dropsOldest_20 : decode cX10_dropsOldest 20 = .ok (.iload_n 1, 1) := by decide +kernel
theorem dX10_dropsOldest_21 : decode cX10_dropsOldest 21 = .ok (.iconst 1, 1) := by decide +kernel
theorem dX10_dropsOldest_22 : decode cX10_dropsOldest 22 = .ok (.isub, 1) := by decide +kernel
theorem dX10_dropsOldest_23 : decode cX10_dropsOldest 23 = .ok (.aload_n 0, 1) := by decide +kernel
theorem dX10_dropsOldest_24 : decode cX10_dropsOldest 24 = .ok (.getfield 57, 3) := by decide +kernel
theorem dX10_dropsOldest_27 : decode cX10_dropsOldest 27 = .ok (.iload_n 1, 1) := by decide +kernel
theorem dX10_dropsOldest_28 : decode cX10_dropsOldest 28 = .ok (.iaload, 1) := by decide +kernel
theorem dX10_dropsOldest_29 : decode cX10_dropsOldest 29 = .ok (.iastore, 1) := by decide +kernel
theorem dX10_dropsOldest_30 : decode cX10_dropsOldest 30 = .ok (.aload_n 0, 1) := by decide +kernel
theorem dX10_dropsOldest_31 : decode cX10_dropsOldest 31 = .ok (.getfield 60, 3) := by decide +kernel
theorem dX10_dropsOldest_34 : decode cX10_dropsOldest 34 = .ok (.iload_n 1, 1) := by decide +kernel
theorem dX10_dropsOldest_35 : decode cX10_dropsOldest 35 = .ok (.iconst 1, 1) := by decide +kernel
theorem dX10_dropsOldest_36 : decode cX10_dropsOldest 36 = .ok (.isub, 1) := by decide +kernel
theorem dX10_dropsOldest_37 : decode cX10_dropsOldest 37 = .ok (.aload_n 0, 1) := by decide +kernel
theorem dX10_dropsOldest_38 : decode cX10_dropsOldest 38 = .ok (.getfield 60, 3) := by decide +kernel
theorem dX10_dropsOldest_41 : decode cX10_dropsOldest 41 = .ok (.iload_n 1, 1) := by decide +kernel
theorem dX10_dropsOldest_42 : decode cX10_dropsOldest 42 = .ok (.baload, 1) := by decide +kernel
theorem dX10_dropsOldest_43 : decode cX10_dropsOldest 43 = .ok (.bastore, 1) := by decide +kernel
theorem dX10_dropsOldest_44 : decode cX10_dropsOldest 44 = .ok (.iinc 1 1, 3) := by decide +kernel
theorem dX10_dropsOldest_47 : decode cX10_dropsOldest 47 = .ok (.goto (-45), 3) := by decide +kernel
theorem dX10_dropsOldest_50 : decode cX10_dropsOldest 50 = .ok (.aload_n 0, 1) := by decide +kernel
theorem dX10_dropsOldest_51 : decode cX10_dropsOldest 51 = .ok (.dup, 1) := by decide +kernel
theorem dX10_dropsOldest_52 : decode cX10_dropsOldest 52 = .ok (.getfield 319, 3) := by decide +kernel
theorem dX10_dropsOldest_55 : decode cX10_dropsOldest 55 = .ok (.iconst 1, 1) := by decide +kernel
theorem dX10_dropsOldest_56 : decode cX10_dropsOldest 56 = .ok (.isub, 1) := by decide +kernel
theorem dX10_dropsOldest_57 : decode cX10_dropsOldest 57 = .ok (.putfield 319, 3) := by decide +kernel
theorem dX10_dropsOldest_60 : decode cX10_dropsOldest 60 = .ok (.return_, 1) := by decide +kernel
theorem dX10_remembers_0 : decode cX10_remembers 0 = .ok (.aload_n 0, 1) := by decide +kernel
theorem dX10_remembers_1 : decode cX10_remembers 1 = .ok (.getfield 319, 3) := by decide +kernel
theorem dX10_remembers_4 : decode cX10_remembers 4 = .ok (.bipush 16, 2) := by decide +kernel
theorem dX10_remembers_6 : decode cX10_remembers 6 = .ok (.if_icmp .ne 7, 3) := by decide +kernel
theorem dX10_remembers_9 : decode cX10_remembers 9 = .ok (.aload_n 0, 1) := by decide +kernel
theorem dX10_remembers_10 : decode cX10_remembers 10 = .ok (.invokevirtual 322, 3) := by decide +kernel
theorem dX10_remembers_13 : decode cX10_remembers 13 = .ok (.aload_n 0, 1) := by decide +kernel
theorem dX10_remembers_14 : decode cX10_remembers 14 = .ok (.dup, 1) := by decide +kernel
theorem dX10_remembers_15 : decode cX10_remembers 15 = .ok (.getfield 319, 3) := by decide +kernel
theorem dX10_remembers_18 : decode cX10_remembers 18 = .ok (.iconst 1, 1) := by decide +kernel
theorem dX10_remembers_19 : decode cX10_remembers 19 = .ok (.iadd, 1) := by decide +kernel
theorem dX10_remembers_20 : decode cX10_remembers 20 = .ok (.putfield 319, 3) := by decide +kernel
theorem dX10_remembers_23 : decode cX10_remembers 23 = .ok (.aload_n 0, 1) := by decide +kernel
theorem dX10_remembers_24 : decode cX10_remembers 24 = .ok (.iconst 0, 1) := by decide +kernel
theorem dX10_remembers_25 : decode cX10_remembers 25 = .ok (.aload_n 0, 1) := by decide +kernel
theorem dX10_remembers_26 : decode cX10_remembers 26 = .ok (.getfield 319, 3) := by decide +kernel
theorem dX10_remembers_29 : decode cX10_remembers 29 = .ok (.invokevirtual 241, 3) := by decide +kernel
theorem dX10_remembers_32 : decode cX10_remembers 32 = .ok (.aload_n 0, 1) := by decide +kernel
theorem dX10_remembers_33 : decode cX10_remembers 33 = .ok (.getfield 57, 3) := by decide +kernel
theorem dX10_remembers_36 : decode cX10_remembers 36 = .ok (.aload_n 0, 1) := by decide +kernel
theorem dX10_remembers_37 : decode cX10_remembers 37 = .ok (.getfield 319, 3) := by decide +kernel
theorem dX10_remembers_40 : decode cX10_remembers 40 = .ok (.iconst 1, 1) := by decide +kernel
theorem dX10_remembers_41 : decode cX10_remembers 41 = .ok (.isub, 1) := by decide +kernel
theorem dX10_remembers_42 : decode cX10_remembers 42 = .ok (.iload_n 1, 1) := by decide +kernel
theorem dX10_remembers_43 : decode cX10_remembers 43 = .ok (.iastore, 1) := by decide +kernel
theorem dX10_remembers_44 : decode cX10_remembers 44 = .ok (.aload_n 0, 1) := by decide +kernel
theorem dX10_remembers_45 : decode cX10_remembers 45 = .ok (.getfield 60, 3) := by decide +kernel
theorem dX10_remembers_48 : decode cX10_remembers 48 = .ok (.aload_n 0, 1) := by decide +kernel
theorem dX10_remembers_49 : decode cX10_remembers 49 = .ok (.getfield 319, 3) := by decide +kernel
theorem dX10_remembers_52 : decode cX10_remembers 52 = .ok (.iconst 1, 1) := by decide +kernel
theorem dX10_remembers_53 : decode cX10_remembers 53 = .ok (.isub, 1) := by decide +kernel
theorem dX10_remembers_54 : decode cX10_remembers 54 = .ok (.aload_n 0, 1) := by decide +kernel
theorem dX10_remembers_55 : decode cX10_remembers 55 = .ok (.getfield 325, 3) := by decide +kernel
theorem dX10_remembers_58 : decode cX10_remembers 58 = .ok (.bastore, 1) := by decide +kernel
theorem dX10_remembers_59 : decode cX10_remembers 59 = .ok (.return_, 1) := by decide +kernel
/-! the steps back; J is what is kept of each skeleton -/
def BF (x y : Nat) : Prop := (508 ≤ x ∧ x < 524) ∨ (579 ≤ x ∧ x < 595) ∨ (650 ≤ x ∧ x < 666) ∨ (x = 719 ∧ 1 ≤ y ∧ y ≤ 16) ∨ x = 720 ∨ x = 721 ∨ (x = 0 ∧ y = 23)
def KF (x y : Nat) : Prop := PS x y ∨ PT 0 x y ∨ BF x y ∨ (x = 0 ∧ (y = 22 ∨ y = 24))
def bkT (J : Rw → Prop) (μ : va_M) (n : Int) : Prop := ∀ k : Nat, 1 ≤ k → (k : Int) ≤ n → ∃ w : Rw, J w ∧ skB w ∧ TR μ k w
def bkR (J : Rw → Prop) (μ : va_M) : Prop := (0 ≤ μ 0 23 ∧ μ 0 23 ≤ 16) ∧ (μ 0 22 = 0 ∨ μ 0 22 = 1) ∧ (∀ k : Nat, k < 16 → μ 721 k = 0 ∨ μ 721 k = 1) ∧ bkT J μ (μ 0 23)
def RI (J : Rw → Prop) (μ : va_M) : Prop := RQ μ ∧ (∃ w : Rw, J w ∧ skB w ∧ TR μ 0 w) ∧ bkR J μ
theorem KF_n {x y : Nat} (h : (x = 0 ∧ (y = 2 ∨ y = 5 ∨ y = 9 ∨ y = 10)) ∨ (2 ≤ x ∧ x < 507) ∨ (524 ≤ x ∧ x < 532) ∨ (595 ≤ x ∧ x < 603) ∨ (666 ≤ x ∧ x < 674) ∨ (x = 719 ∧ 17 ≤ y ∧ y < 25)) : ¬ KF x y := by unfold KF PS PT BF; omega
theorem RQ_to {μ u : va_M} (h : RQ μ) (hf : fr KF μ u) (hs : ∃ w : Rw, skB w ∧ TR u 0 w) : RQ u := by
  obtain ⟨a1, ⟨T, a2, a3⟩, a4, a5, _⟩ := h
  have e10 := hf 0 10 (KF_n (by omega))
  have e9 := hf 0 9 (KF_n (by omega))
  refine ⟨by omega, ⟨T, tabR_fr a2 hf (KF_n (by omega)) (fun k => ⟨KF_n (by omega), KF_n (by omega), KF_n (by omega)⟩), a3⟩, fun j hj => by rw [hf 3 j (KF_n (by omega))]; exact a4 j hj, fun i hi => ?_, hs⟩
  obtain ⟨b1, b2, b3, w2, b4, b5, b6⟩ := a5 i (by omega)
  refine ⟨by rw [hf 15 i (KF_n (by omega))]; exact b1, by rw [hf 505 i (KF_n (by omega))]; exact b2, fun k hk => ?_, w2, b4, b5, TR_fr b6 hf (fun x => ⟨KF_n (by omega), KF_n (by omega), KF_n (by omega)⟩) (KF_n (by omega))⟩
  rw [hf 15 i (KF_n (by omega))] at hk
  rw [hf (7 + i) k (KF_n (by omega)), e9]
  exact b3 k hk
theorem RI_PS {J : Rw → Prop} {μ u : va_M} (h : RI J μ) (hf : fr PS μ u) : RI J u := by
  obtain ⟨h1, ⟨w, w1, w2, w3⟩, b1, b2, b3, b4⟩ := h
  have e23 := hf 0 23 (PS_n (by omega))
  have e22 := hf 0 22 (PS_n (by omega))
  refine ⟨RQ_fr h1 hf, ⟨w, w1, w2, TR_PS w3 hf (by omega)⟩, by omega, by omega, fun k hk => by rw [hf 721 k (PS_n (by omega))]; exact b3 k hk, fun k h1 h2 => ?_⟩
  obtain ⟨v, v1, v2, v3⟩ := b4 k h1 (by omega)
  exact ⟨v, v1, v2, TR_PS v3 hf (by omega)⟩

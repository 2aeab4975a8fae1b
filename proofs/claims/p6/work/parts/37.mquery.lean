theorem k1484 : (Cond.methodLink "PageSkeletonModel" (313 : Nat) ({ cls := "PageSkeletonModel", name := "sizeOfAll", desc := "(I)I" } : MethodName)) ∈ wsG := wsG_at 1484 (by decide +kernel) (by decide +kernel)
theorem k1486 : (Cond.instanceMethod ({ cls := "PageSkeletonModel", name := "sizeOfAll", desc := "(I)I" } : MethodName)) ∈ wsG := wsG_at 1486 (by decide +kernel) (by decide +kernel)
theorem k1487 : (Cond.code ({ cls := "PageSkeletonModel", name := "sizeOfAll", desc := "(I)I" } : MethodName) prog_12_method_27_code (2 : Nat) (Option.some FieldType.int)) ∈ wsG := wsG_at 1487 (by decide +kernel) (by decide +kernel)
theorem k1576 : (Cond.methodLink "PageSkeletonModel" (337 : Nat) ({ cls := "PageSkeletonModel", name := "ofSort", desc := "(II)I" } : MethodName)) ∈ wsG := wsG_at 1576 (by decide +kernel) (by decide +kernel)
theorem k1578 : (Cond.instanceMethod ({ cls := "PageSkeletonModel", name := "ofSort", desc := "(II)I" } : MethodName)) ∈ wsG := wsG_at 1578 (by decide +kernel) (by decide +kernel)
theorem k1579 : (Cond.code ({ cls := "PageSkeletonModel", name := "ofSort", desc := "(II)I" } : MethodName) prog_12_method_58_code (5 : Nat) (Option.some FieldType.int)) ∈ wsG := wsG_at 1579 (by decide +kernel) (by decide +kernel)
theorem k1584 : (Cond.methodLink "PageSkeletonModel" (346 : Nat) ({ cls := "PageSkeletonModel", name := "isPage", desc := "(I)Z" } : MethodName)) ∈ wsG := wsG_at 1584 (by decide +kernel) (by decide +kernel)
theorem k1586 : (Cond.instanceMethod ({ cls := "PageSkeletonModel", name := "isPage", desc := "(I)Z" } : MethodName)) ∈ wsG := wsG_at 1586 (by decide +kernel) (by decide +kernel)
theorem k1587 : (Cond.code ({ cls := "PageSkeletonModel", name := "isPage", desc := "(I)Z" } : MethodName) prog_12_method_60_code (2 : Nat) (Option.some FieldType.boolean)) ∈ wsG := wsG_at 1587 (by decide +kernel) (by decide +kernel)
theorem k1588 : (Cond.methodLink "PageSkeletonModel" (349 : Nat) ({ cls := "PageSkeletonModel", name := "deepest", desc := "(I)I" } : MethodName)) ∈ wsG := wsG_at 1588 (by decide +kernel) (by decide +kernel)
theorem k1590 : (Cond.instanceMethod ({ cls := "PageSkeletonModel", name := "deepest", desc := "(I)I" } : MethodName)) ∈ wsG := wsG_at 1590 (by decide +kernel) (by decide +kernel)
theorem k1591 : (Cond.code ({ cls := "PageSkeletonModel", name := "deepest", desc := "(I)I" } : MethodName) prog_12_method_63_code (4 : Nat) (Option.some FieldType.int)) ∈ wsG := wsG_at 1591 (by decide +kernel) (by decide +kernel)
theorem ks_yX10_isPage : Cond.selects RX10 yX10_isPage yX10_isPage ∈ wsG := wsG_mem (by decide +kernel) (by decide +kernel)
theorem ks_yX10_deepest : Cond.selects RX10 yX10_deepest yX10_deepest ∈ wsG := wsG_mem (by decide +kernel) (by decide +kernel)
theorem ks_yX10_ofSort : Cond.selects RX10 yX10_ofSort yX10_ofSort ∈ wsG := wsG_mem (by decide +kernel) (by decide +kernel)
theorem ks_yX10_sizeOfAll : Cond.selects RX10 yX10_sizeOfAll yX10_sizeOfAll ∈ wsG := wsG_mem (by decide +kernel) (by decide +kernel)
theorem dX10_pageOf_0 : decode cX10_pageOf 0 = .ok (.aload_n 0, 1) := by decide +kernel
theorem dX10_pageOf_1 : decode cX10_pageOf 1 = .ok (.iconst 0, 1) := by decide +kernel
theorem dX10_pageOf_2 : decode cX10_pageOf 2 = .ok (.putfield 127, 3) := by decide +kernel
theorem dX10_pageOf_5 : decode cX10_pageOf 5 = .ok (.aload_n 0, 1) := by decide +kernel
theorem dX10_pageOf_6 : decode cX10_pageOf 6 = .ok (.aload_n 0, 1) := by decide +kernel
theorem dX10_pageOf_7 : decode cX10_pageOf 7 = .ok (.iload_n 1, 1) := by decide +kernel
theorem dX10_pageOf_8 : decode cX10_pageOf 8 = .ok (.invokevirtual 346, 3) := by decide +kernel
theorem dX10_pageOf_11 : decode cX10_pageOf 11 = .ok (.ifCond .ne 7, 3) := by decide +kernel
theorem dX10_pageOf_14 : decode cX10_pageOf 14 = .ok (.iconst 1, 1) := by decide +kernel
theorem dX10_pageOf_15 : decode cX10_pageOf 15 = .ok (.goto 4, 3) := by decide +kernel
theorem dX10_pageOf_18 : decode cX10_pageOf 18 = .ok (.iconst 0, 1) := by decide +kernel
theorem dX10_pageOf_19 : decode cX10_pageOf 19 = .ok (.iconst 1, 1) := by decide +kernel
theorem dX10_pageOf_20 : decode cX10_pageOf 20 = .ok (.iconst 0, 1) := by decide +kernel
theorem dX10_pageOf_21 : decode cX10_pageOf 21 = .ok (.invokevirtual 177, 3) := by decide +kernel
theorem dX10_pageOf_24 : decode cX10_pageOf 24 = .ok (.ifCond .ne 26, 3) := by decide +kernel
theorem dX10_pageOf_27 : decode cX10_pageOf 27 = .ok (.aload_n 0, 1) := by decide +kernel
theorem dX10_pageOf_28 : decode cX10_pageOf 28 = .ok (.iload_n 2, 1) := by decide +kernel
theorem dX10_pageOf_29 : decode cX10_pageOf 29 = .ok (.iconst 0, 1) := by decide +kernel
theorem dX10_pageOf_30 : decode cX10_pageOf 30 = .ok (.iconst 4, 1) := by decide +kernel
theorem dX10_pageOf_31 : decode cX10_pageOf 31 = .ok (.invokestatic 173, 3) := by decide +kernel
theorem dX10_pageOf_34 : decode cX10_pageOf 34 = .ok (.ifCond .ne 7, 3) := by decide +kernel
theorem dX10_pageOf_37 : decode cX10_pageOf 37 = .ok (.iconst 1, 1) := by decide +kernel
theorem dX10_pageOf_38 : decode cX10_pageOf 38 = .ok (.goto 4, 3) := by decide +kernel
theorem dX10_pageOf_41 : decode cX10_pageOf 41 = .ok (.iconst 0, 1) := by decide +kernel
theorem dX10_pageOf_42 : decode cX10_pageOf 42 = .ok (.iconst 2, 1) := by decide +kernel
theorem dX10_pageOf_43 : decode cX10_pageOf 43 = .ok (.iconst 1, 1) := by decide +kernel
theorem dX10_pageOf_44 : decode cX10_pageOf 44 = .ok (.invokevirtual 177, 3) := by decide +kernel
theorem dX10_pageOf_47 : decode cX10_pageOf 47 = .ok (.ifCond .eq 5, 3) := by decide +kernel
theorem dX10_pageOf_50 : decode cX10_pageOf 50 = .ok (.iconst 0, 1) := by decide +kernel
theorem dX10_pageOf_51 : decode cX10_pageOf 51 = .ok (.ireturn, 1) := by decide +kernel
theorem dX10_pageOf_52 : decode cX10_pageOf 52 = .ok (.bipush 17, 2) := by decide +kernel
theorem dX10_pageOf_54 : decode cX10_pageOf 54 = .ok (.iload_n 1, 1) := by decide +kernel
theorem dX10_pageOf_55 : decode cX10_pageOf 55 = .ok (.iadd, 1) := by decide +kernel
theorem dX10_pageOf_56 : decode cX10_pageOf 56 = .ok (.istore_n 3, 1) := by decide +kernel
theorem dX10_pageOf_57 : decode cX10_pageOf 57 = .ok (.iload_n 2, 1) := by decide +kernel
theorem dX10_pageOf_58 : decode cX10_pageOf 58 = .ok (.ifCond .ne 12, 3) := by decide +kernel
theorem dX10_pageOf_61 : decode cX10_pageOf 61 = .ok (.aload_n 0, 1) := by decide +kernel
theorem dX10_pageOf_62 : decode cX10_pageOf 62 = .ok (.getfield 34, 3) := by decide +kernel
theorem dX10_pageOf_65 : decode cX10_pageOf 65 = .ok (.iload_n 1, 1) := by decide +kernel
theorem dX10_pageOf_66 : decode cX10_pageOf 66 = .ok (.iaload, 1) := by decide +kernel
theorem dX10_pageOf_67 : decode cX10_pageOf 67 = .ok (.goto 49, 3) := by decide +kernel
theorem dX10_pageOf_70 : decode cX10_pageOf 70 = .ok (.iload_n 2, 1) := by decide +kernel
theorem dX10_pageOf_71 : decode cX10_pageOf 71 = .ok (.iconst 1, 1) := by decide +kernel
theorem dX10_pageOf_72 : decode cX10_pageOf 72 = .ok (.if_icmp .ne 12, 3) := by decide +kernel
theorem dX10_pageOf_75 : decode cX10_pageOf 75 = .ok (.aload_n 0, 1) := by decide +kernel
theorem dX10_pageOf_76 : decode cX10_pageOf 76 = .ok (.getfield 54, 3) := by decide +kernel
theorem dX10_pageOf_79 : decode cX10_pageOf 79 = .ok (.iload_n 3, 1) := by decide +kernel
theorem dX10_pageOf_80 : decode cX10_pageOf 80 = .ok (.iaload, 1) := by decide +kernel
theorem dX10_pageOf_81 : decode cX10_pageOf 81 = .ok (.goto 35, 3) := by decide +kernel
theorem dX10_pageOf_84 : decode cX10_pageOf 84 = .ok (.iload_n 2, 1) := by decide +kernel
theorem dX10_pageOf_85 : decode cX10_pageOf 85 = .ok (.iconst 2, 1) := by decide +kernel
theorem dX10_pageOf_86 : decode cX10_pageOf 86 = .ok (.if_icmp .ne 11, 3) := by decide +kernel
theorem dX10_pageOf_89 : decode cX10_pageOf 89 = .ok (.aload_n 0, 1) := by decide +kernel
theorem dX10_pageOf_90 : decode cX10_pageOf 90 = .ok (.iload_n 3, 1) := by decide +kernel
theorem dX10_pageOf_91 : decode cX10_pageOf 91 = .ok (.invokevirtual 313, 3) := by decide +kernel
theorem dX10_pageOf_94 : decode cX10_pageOf 94 = .ok (.goto 22, 3) := by decide +kernel
theorem dX10_pageOf_97 : decode cX10_pageOf 97 = .ok (.iload_n 2, 1) := by decide +kernel
theorem dX10_pageOf_98 : decode cX10_pageOf 98 = .ok (.iconst 3, 1) := by decide +kernel
theorem dX10_pageOf_99 : decode cX10_pageOf 99 = .ok (.if_icmp .ne 12, 3) := by decide +kernel
theorem dX10_pageOf_102 : decode cX10_pageOf 102 = .ok (.aload_n 0, 1) := by decide +kernel
theorem dX10_pageOf_103 : decode cX10_pageOf 103 = .ok (.iload_n 3, 1) := by decide +kernel
theorem dX10_pageOf_104 : decode cX10_pageOf 104 = .ok (.iconst 4, 1) := by decide +kernel
theorem dX10_pageOf_105 : decode cX10_pageOf 105 = .ok (.invokevirtual 337, 3) := by decide +kernel
theorem dX10_pageOf_108 : decode cX10_pageOf 108 = .ok (.goto 8, 3) := by decide +kernel
theorem dX10_pageOf_111 : decode cX10_pageOf 111 = .ok (.aload_n 0, 1) := by decide +kernel
theorem dX10_pageOf_112 : decode cX10_pageOf 112 = .ok (.iload_n 3, 1) := by decide +kernel
theorem dX10_pageOf_113 : decode cX10_pageOf 113 = .ok (.invokevirtual 349, 3) := by decide +kernel
theorem dX10_pageOf_116 : decode cX10_pageOf 116 = .ok (.ireturn, 1) := by decide +kernel
theorem dX10_token_0 : decode cX10_token 0 = .ok (.aload_n 0, 1) := by decide +kernel
theorem dX10_token_1 : decode cX10_token 1 = .ok (.iconst 0, 1) := by decide +kernel
theorem dX10_token_2 : decode cX10_token 2 = .ok (.putfield 127, 3) := by decide +kernel
theorem dX10_token_5 : decode cX10_token 5 = .ok (.aload_n 0, 1) := by decide +kernel
theorem dX10_token_6 : decode cX10_token 6 = .ok (.iload_n 1, 1) := by decide +kernel
theorem dX10_token_7 : decode cX10_token 7 = .ok (.invokevirtual 346, 3) := by decide +kernel
theorem dX10_token_10 : decode cX10_token 10 = .ok (.ifCond .eq 23, 3) := by decide +kernel
theorem dX10_token_13 : decode cX10_token 13 = .ok (.iload_n 2, 1) := by decide +kernel
theorem dX10_token_14 : decode cX10_token 14 = .ok (.iconst 0, 1) := by decide +kernel
theorem dX10_token_15 : decode cX10_token 15 = .ok (.aload_n 0, 1) := by decide +kernel
theorem dX10_token_16 : decode cX10_token 16 = .ok (.getfield 34, 3) := by decide +kernel
theorem dX10_token_19 : decode cX10_token 19 = .ok (.iload_n 1, 1) := by decide +kernel
theorem dX10_token_20 : decode cX10_token 20 = .ok (.iaload, 1) := by decide +kernel
theorem dX10_token_21 : decode cX10_token 21 = .ok (.iconst 1, 1) := by decide +kernel
theorem dX10_token_22 : decode cX10_token 22 = .ok (.isub, 1) := by decide +kernel
theorem dX10_token_23 : decode cX10_token 23 = .ok (.invokestatic 173, 3) := by decide +kernel
theorem dX10_token_26 : decode cX10_token 26 = .ok (.ifCond .eq 7, 3) := by decide +kernel
theorem dX10_token_29 : decode cX10_token 29 = .ok (.iconst 1, 1) := by decide +kernel
theorem dX10_token_30 : decode cX10_token 30 = .ok (.goto 4, 3) := by decide +kernel
theorem dX10_token_33 : decode cX10_token 33 = .ok (.iconst 0, 1) := by decide +kernel
theorem dX10_token_34 : decode cX10_token 34 = .ok (.istore_n 3, 1) := by decide +kernel
theorem dX10_token_35 : decode cX10_token 35 = .ok (.aload_n 0, 1) := by decide +kernel
theorem dX10_token_36 : decode cX10_token 36 = .ok (.iload_n 3, 1) := by decide +kernel
theorem dX10_token_37 : decode cX10_token 37 = .ok (.ifCond .ne 7, 3) := by decide +kernel
theorem dX10_token_40 : decode cX10_token 40 = .ok (.iconst 1, 1) := by decide +kernel
theorem dX10_token_41 : decode cX10_token 41 = .ok (.goto 4, 3) := by decide +kernel
theorem dX10_token_44 : decode cX10_token 44 = .ok (.iconst 0, 1) := by decide +kernel
theorem dX10_token_45 : decode cX10_token 45 = .ok (.iconst 1, 1) := by decide +kernel
theorem dX10_token_46 : decode cX10_token 46 = .ok (.iconst 0, 1) := by decide +kernel
theorem dX10_token_47 : decode cX10_token 47 = .ok (.invokevirtual 177, 3) := by decide +kernel
theorem dX10_token_50 : decode cX10_token 50 = .ok (.ifCond .eq 5, 3) := by decide +kernel
theorem dX10_token_53 : decode cX10_token 53 = .ok (.iconst 0, 1) := by decide +kernel
theorem dX10_token_54 : decode cX10_token 54 = .ok (.ireturn, 1) := by decide +kernel
theorem dX10_token_55 : decode cX10_token 55 = .ok (.aload_n 0, 1) := by decide +kernel
theorem dX10_token_56 : decode cX10_token 56 = .ok (.getfield 31, 3) := by decide +kernel
theorem dX10_token_59 : decode cX10_token 59 = .ok (.iload_n 1, 1) := by decide +kernel
theorem dX10_token_60 : decode cX10_token 60 = .ok (.aaload, 1) := by decide +kernel
theorem dX10_token_61 : decode cX10_token 61 = .ok (.iload_n 2, 1) := by decide +kernel
theorem dX10_token_62 : decode cX10_token 62 = .ok (.iaload, 1) := by decide +kernel
theorem dX10_token_63 : decode cX10_token 63 = .ok (.ireturn, 1) := by decide +kernel
/-! what stands in the reference between the calls, as far as the answers ask for it; what a question may change -/
def PS (x y : Nat) : Prop := (x = 0 ∧ ¬ (y = 2 ∨ y = 5 ∨ y = 9 ∨ y = 10 ∨ y = 22 ∨ y = 23 ∨ y = 24)) ∨ x = 1 ∨ (532 ≤ x ∧ x < 578) ∨ (603 ≤ x ∧ x < 649) ∨ (674 ≤ x ∧ x < 719) ∨ (x = 719 ∧ 25 ≤ y) ∨ 722 ≤ x
/-- a row with an item that is no option; each repeat holds such a row -/
def rPl : Rw → Prop
  | .leaf => False
  | .inner _ k _ _ r => k ≠ 3 ∨ rPl r
def rRF : Rw → Prop
  | .leaf => True
  | .inner _ k _ l r => (k = 4 → rPl l) ∧ rRF l ∧ rRF r
def skB (w : Rw) : Prop := rWF w ∧ rN w ≤ 900 ∧ rI w ≤ 260 ∧ rH w ≤ 16 ∧ rRF w
def pgQ (μ : va_M) (i : Nat) : Prop := (1 ≤ μ 15 i ∧ μ 15 i ≤ 60) ∧ (0 ≤ μ 505 i ∧ μ 505 i ≤ 60) ∧ (∀ k : Nat, (k : Int) < μ 15 i → 0 ≤ μ (7 + i) k ∧ μ (7 + i) k < μ 0 9) ∧ ∃ w : Rw, rPage w ∧ 1 ≤ rI w ∧ TR μ (17 + i) w
def RQ (μ : va_M) : Prop := (0 ≤ μ 0 10 ∧ μ 0 10 ≤ 8) ∧ (∃ T : List Tk, tabR μ T ∧ tabW T) ∧ (∀ j : Nat, j < 201 → inR (μ 3 j)) ∧ (∀ i : Nat, (i : Int) < μ 0 10 → pgQ μ i) ∧ ∃ w : Rw, skB w ∧ TR μ 0 w
theorem PS_n {x y : Nat} (h : (x = 0 ∧ (y = 2 ∨ y = 5 ∨ y = 9 ∨ y = 10 ∨ y = 22 ∨ y = 23 ∨ y = 24)) ∨ (2 ≤ x ∧ x < 532) ∨ (578 ≤ x ∧ x < 603) ∨ (649 ≤ x ∧ x < 674) ∨ (x = 719 ∧ y < 25) ∨ x = 720 ∨ x = 721) : ¬ PS x y := by unfold PS; omega
theorem TR_PS {μ u : va_M} {t : Nat} {w : Rw} (h : TR μ t w) (hf : fr PS μ u) (ht : t < 25) : TR u t w := TR_fr h hf (fun x => ⟨PS_n (by omega), PS_n (by omega), PS_n (by omega)⟩) (PS_n (by omega))
theorem RQ_fr {μ u : va_M} (h : RQ μ) (hf : fr PS μ u) : RQ u := by
  obtain ⟨a1, ⟨T, a2, a3⟩, a4, a5, w, a6, a7⟩ := h
  have e10 := hf 0 10 (PS_n (by omega))
  have e9 := hf 0 9 (PS_n (by omega))
  refine ⟨by omega, ⟨T, tabR_fr a2 hf (PS_n (by omega)) (fun k => ⟨PS_n (by omega), PS_n (by omega), PS_n (by omega)⟩), a3⟩, fun j hj => by rw [hf 3 j (PS_n (by omega))]; exact a4 j hj, fun i hi => ?_, w, a6, TR_PS a7 hf (by omega)⟩
  obtain ⟨b1, b2, b3, w2, b4, b5, b6⟩ := a5 i (by omega)
  refine ⟨by rw [hf 15 i (PS_n (by omega))]; exact b1, by rw [hf 505 i (PS_n (by omega))]; exact b2, fun k hk => ?_, w2, b4, b5, TR_PS b6 hf (by omega)⟩
  rw [hf 15 i (PS_n (by omega))] at hk
  rw [hf (7 + i) k (PS_n (by omega)), e9]
  exact b3 k hk
def badP (μ u : va_M) (q1 w q3 r : Int) : Prop := if q1 = 0 then u = μ ∧ r = 0 else u = uz (uz μ 0 0 w) 1 q3.toNat (μ 1 q3.toNat + 1) ∧ r = 1
theorem badP_fr {μ u : va_M} {q1 w q3 r : Int} (h : badP μ u q1 w q3 r) : fr PS μ u := by
  unfold badP at h
  split at h
  · rw [h.1]; exact fr_rfl
  · rw [h.1]; exact fr_uz (fr_uz fr_rfl (by unfold PS; omega)) (by unfold PS; omega)
theorem badP_r {μ u : va_M} {q1 w q3 r : Int} (h : badP μ u q1 w q3 r) : (q1 = 0 ∧ r = 0 ∧ u 0 0 = μ 0 0) ∨ (q1 ≠ 0 ∧ r = 1 ∧ u 0 0 = w) := by
  unfold badP at h
  split at h
  · next h9 => exact Or.inl ⟨h9, h.2, by rw [h.1]⟩
  · next h9 => exact Or.inr ⟨h9, h.2, by rw [h.1, uz_n (by omega), uz_s]⟩
theorem if_get {c : Prop} [Decidable c] {r : Int} (h : r = if c then 1 else 0) (h2 : ¬ r = 0) : c := by
  by_cases h9 : c
  · exact h9
  · rw [if_neg h9] at h; exact absurd h h2
theorem if_not {c : Prop} [Decidable c] {r : Int} (h : r = if c then 1 else 0) (h2 : r = 0) : ¬ c := by
  intro h9
  rw [if_pos h9] at h; omega
theorem if_01 {c : Prop} [Decidable c] {r : Int} (h : r = if c then 1 else 0) : r = 0 ∨ r = 1 := by
  rw [h]; split <;> omega
theorem rI_N2 : ∀ w : Rw, rI w ≤ rN w
  | .leaf => Nat.le_refl 0
  | .inner z k v l r => by
    have := rI_N2 r
    rw [rI_in, rN_in]; omega
/-- each place in a row holds an item -/
theorem RA_at {μ : va_M} {t : Nat} : ∀ (w : Rw) (p : Nat), RA μ t w p → rWF w → ∀ x : Nat, p ≤ x → x < p + rN w → ∃ (k : Nat) (v : Int) (w1 : Rw), IA μ t x k v w1 ∧ iWF k v w1 ∧ x + 1 + rN w1 ≤ p + rN w ∧ 1 + rH w1 ≤ rH w ∧ rI w1 ≤ rN w
  | .leaf, p, _, _, x, h1, h2 => by
    have e : rN (Std.DTreeMap.Internal.Impl.leaf : Rw) = 0 := rfl
    omega
  | .inner z k v l r, p, ⟨a1, a2, a3, a4, a5⟩, ⟨f1, f2, f3, f4, f5, f6, f7, f8⟩, x, h1, h2 => by
    rw [rN_in] at h2
    rw [rN_in, rH_in]
    by_cases h3 : x = p
    · subst h3
      have := rI_N2 l
      exact ⟨k, v, l, ⟨a1, a2, a3, a4⟩, ⟨f1, f2, f3, f4, f5, f6, f7⟩, by omega, by omega, by omega⟩
    · by_cases h4 : x < p + 1 + rN l
      · obtain ⟨k1, v1, w1, b1, b2, b3, b4, b5⟩ := RA_at l (p + 1) a4 f7 x (by omega) h4
        exact ⟨k1, v1, w1, b1, b2, by omega, by omega, by omega⟩
      · obtain ⟨k1, v1, w1, b1, b2, b3, b4, b5⟩ := RA_at r (p + 1 + rN l) a5 f8 x (by omega) (by omega)
        exact ⟨k1, v1, w1, b1, b2, by omega, by omega, by omega⟩
theorem m_bad2 (l : Launch) (dC : Nat → ClassId) (dI : Nat → Nat → Nat) (cI cZ cII cIII : ClassId) (h0 sz : Nat) (μ : va_M) (q1 : Int) (w : Int) (q3 : Int) (h1 : q1 = 0 ∨ q1 = 1) (hw : w = 1 ∨ w = 2) (h3 : 0 ≤ q3 ∧ q3 ≤ 2) (ht : μ 0 0 = 0) : Met l yX10_bad (Cond.code yX10_bad cX10_bad 4 (some .boolean) :: wsG) ({ frames := 1, cells := 0, slots := 0, locals := 14 } : Room) (va_Pc [.ref h0, .int (iZ (q1)), .int (iZ (w)), .int (iZ (q3))] (fun U => U.heap.size = sz ∧ va_P (dC, dI) vwCl (fw (mE cI cZ cII cIII h0) h0 6325 μ) U.heap ∧ va_K (dC, dI) vwCl (mT cI cZ cII cIII) U)) (va_Qi (fun (r9 : Int32) (u : va_M × Int) => r9 = iZ u.2 ∧ (fun (u : va_M) (r : Int) => badP μ u q1 w q3 r) u.1 u.2) (fun u t => va_P (dC, dI) vwCl (fw (mE cI cZ cII cIII h0) h0 6325 u.1) t.heap ∧ va_K (dC, dI) vwCl (mT cI cZ cII cIII) t) (fA h0 6325 sz)) 0 0 (fA h0 6325 sz) :=
  m_bad l dC dI cI cZ cII cIII h0 sz μ q1 w q3 h1 hw h3 ht
set_option maxHeartbeats 4000000 in
set_option maxRecDepth 100000 in
theorem m_pageOf (l : Launch) (dC : Nat → ClassId) (dI : Nat → Nat → Nat) (cI cZ cII cIII : ClassId) (h0 sz : Nat) (μ : va_M) (pp : Int) (w : Int) (hQ : RQ μ) (hp : inR pp) (hw9 : inR w) : Met l yX10_pageOf (Cond.code yX10_pageOf cX10_pageOf 4 (some .int) :: wsG) ({ frames := 3, cells := 0, slots := 0, locals := 62 } : Room) (va_Pc [.ref h0, .int (iZ (pp)), .int (iZ (w))] (fun U => U.heap.size = sz ∧ va_P (dC, dI) vwCl (fw (mE cI cZ cII cIII h0) h0 6325 μ) U.heap ∧ va_K (dC, dI) vwCl (mT cI cZ cII cIII) U)) (va_Qi (fun (r9 : Int32) (u : va_M × Int) => r9 = iZ u.2 ∧ (fun (u : va_M) (r : Int) => fr PS μ u ∧ (u 0 0 = 0 ∨ u 0 0 = 1 ∨ u 0 0 = 2)) u.1 u.2) (fun u t => va_P (dC, dI) vwCl (fw (mE cI cZ cII cIII h0) h0 6325 u.1) t.heap ∧ va_K (dC, dI) vwCl (mT cI cZ cII cIII) t) (fA h0 6325 sz)) 0 0 (fA h0 6325 sz) := by
  refine Met.ofW (cc := cX10_pageOf) (maxL := 4) (ret := (some .int)) (by decide) rfl ?_
  intro p e s m args below meth c s₁ B hml hv
  obtain ⟨rfl, hsz, hP, hK⟩ := hv
  have hx := B.exec
  have hb := B.bytes
  have hr := B.returns
  have hts : ∀ w ∈ wsG, w.before _ s = true := hG_of (atoms_spec (ws := (Cond.code yX10_pageOf cX10_pageOf 4 (some .int) :: wsG)) B.pre)
  have hown : s.vm.findClass RX10 = some m.cls := findClass_of_methodNamed B.named
  have hlocks := B.notSynchronized
  subst hsz
  have hS : va_S (fA h0 6325 s.heap.size) s.heap s.heap [] := va_S.rf
  have hl := lv_entry ([.ref h0, .int (iZ (pp)), .int (iZ (w))]) (n := 4) (Nat.le_of_ble_eq_true rfl)
  rw [lg_entry_eq]
  generalize (lg_sl ([.ref h0, .int (iZ (pp)), .int (iZ (w))]) ++ List.replicate (4 - (lg_sl ([.ref h0, .int (iZ (pp)), .int (iZ (w))])).length) Slot.unset).toArray = ls at hl ⊢
  have hl : lv_has ls 4 [(0, .ref h0), (1, .int (iZ (pp))), (2, .int (iZ (w)))] := hl
  refine lv_aload_n hx hb dX10_pageOf_0 rfl (lv_at hl 0 rfl) ?_
  refine lv_iconst (v := iZ 0) hx hb dX10_pageOf_1 rfl ?_
  refine fz_put (D := (dC, dI)) (ci := 10) (ty := .int) (z := 0) (C := RX10) (T := TX10) (N := 53) hx hb hts inG10 tyX10 tyX10_ok nmX10 hown hK hP fA_in hS (k := 0) (by decide) (F := mF h0) mE_obj rfl 0 (by decide) (hts _ k1166) (fun _ h9 => h9) rfl (by decide +kernel) rfl rfl (fun _ => Nat.le_of_ble_eq_true rfl) (fun _ _ => rfl) dX10_pageOf_2 (fun H locs hP hS => ?_)
  obtain ⟨μ1, eμ1⟩ : ∃ x : va_M, x = uz μ 0 0 (0) := ⟨_, rfl⟩
  rw [← eμ1] at hP
  have hfr : fr PS μ μ1 := by rw [eμ1]; exact fr_uz fr_rfl (by unfold PS; omega)
  have ht0 : μ1 0 0 = 0 := by rw [eμ1, uz_s]
  have e10 := hfr 0 10 (PS_n (by omega))
  have e9 := hfr 0 9 (PS_n (by omega))
  have e71 := hfr 719 0 (PS_n (by omega))
  have hQ1 := RQ_fr hQ hfr
  have hQc := hQ
  obtain ⟨f10, ⟨fT, fTb, fTw⟩, fS3, fPg, fw9, fwB, fwT⟩ := hQc
  obtain ⟨g10, ⟨gT, gTb, gTw⟩, gS3, gPg, gw, gwB, gwT⟩ := hQ1
  have gtk := TR_tok gwT gwB.1 gwB.2.1
  have gt1 := gtk.1
  have gt2 := gtk.2.1
  refine lv_aload_n hx hb dX10_pageOf_5 rfl (lv_at hl 0 rfl) ?_
  refine lv_aload_n hx hb dX10_pageOf_6 rfl (lv_at hl 0 rfl) ?_
  refine lv_iload_n hx hb dX10_pageOf_7 rfl (lv_at hl 1 rfl) ?_
  refine va_calli (va_runV (As := [.int (iZ (pp))]) (rest := [.ref h0]) ⟨hx, hb, hml, hown, hts⟩ (m_isPage l dC dI cI cZ cII cIII h0 H.size μ1 (pp) (by first | assumption | omega | exact ⟨by omega, by omega⟩) (by first | assumption | omega | exact ⟨by omega, by omega⟩)) (cwV 1 hts (gV_G k1584 k1586 ks_yX10_isPage k13 k1587) rfl rfl rfl (by decide +kernel) ⟨Nat.le_of_ble_eq_true rfl, Nat.le_of_ble_eq_true rfl⟩) ⟨fun a U g mk q => by obtain ⟨q0, q1, qP, qK⟩ := q; exact ⟨q0, q1, qP, va_K.moved (u := U) (U := U.calling g mk a) (Vm.Alike.refl U.vm) qK⟩, va_recv hK hP (ci := 10) (q0 := 0) rfl ((fw_get (by decide)).trans (by rw [mE_obj]; rfl)), fun U hU hW => ⟨rfl, by rw [hU], by rw [hU]; exact hP, va_K.moved hW.alike hK⟩⟩ rfl rfl hl.1 rfl (lv_room (Nat.le_of_ble_eq_true rfl)) dX10_pageOf_8 ⟨Nat.le_of_ble_eq_true rfl, Nat.le_of_ble_eq_true rfl⟩) hS (fun q _ h => fA_le hS.1 q h) (fA_le hS.1) (fun r9 u9 t9 H1 locs ht9 hvm9 hw9 hB9 hz9 hk9 hS => ?_)
  obtain ⟨μ2, r3⟩ := u9
  obtain ⟨hP, -⟩ := hB9
  rw [ht9] at hP
  generalize H1 = H at hP hS ⊢
  obtain ⟨e9, hw9⟩ := hw9
  have e9 : r9 = iZ r3 := e9
  subst e9
  simp only at hP hw9
  have hμ2 := hw9; clear hw9
  rw [hμ2.1] at hP; have hμ2 := hμ2.2
  have hip := hμ2
  have hip2 := if_01 hμ2
  refine fz_if_ne (tgt := 18) (by constructor <;> omega) hx hb dX10_pageOf_11 (by decide) (fun c11_ => ?_) (fun c11_ => ?_)
  · have hpp := if_get hip (by omega)
    refine lv_iconst (v := iZ 0) hx hb dX10_pageOf_18 rfl ?_
    refine lv_iconst (v := iZ 1) hx hb dX10_pageOf_19 rfl ?_
    refine lv_iconst (v := iZ 0) hx hb dX10_pageOf_20 rfl ?_
    refine va_calli (va_runV (As := [.int (iZ (0)), .int (iZ (1)), .int (iZ (0))]) (rest := []) ⟨hx, hb, hml, hown, hts⟩ (m_bad2 l dC dI cI cZ cII cIII h0 H.size μ1 (0) (1) (0) (by first | assumption | omega | exact ⟨by omega, by omega⟩) (by first | assumption | omega | exact ⟨by omega, by omega⟩) (by first | assumption | omega | exact ⟨by omega, by omega⟩) (by first | assumption | omega | exact ⟨by omega, by omega⟩)) (cwV 3 hts (gV_G k1338 k1340 ks_yX10_bad k13 k1341) rfl rfl rfl (by decide +kernel) ⟨Nat.le_of_ble_eq_true rfl, Nat.le_of_ble_eq_true rfl⟩) ⟨fun a U g mk q => by obtain ⟨q0, q1, qP, qK⟩ := q; exact ⟨q0, q1, qP, va_K.moved (u := U) (U := U.calling g mk a) (Vm.Alike.refl U.vm) qK⟩, va_recv hK hP (ci := 10) (q0 := 0) rfl ((fw_get (by decide)).trans (by rw [mE_obj]; rfl)), fun U hU hW => ⟨rfl, by rw [hU], by rw [hU]; exact hP, va_K.moved hW.alike hK⟩⟩ rfl rfl hl.1 rfl (lv_room (Nat.le_of_ble_eq_true rfl)) dX10_pageOf_21 ⟨Nat.le_of_ble_eq_true rfl, Nat.le_of_ble_eq_true rfl⟩) hS (fun q _ h => fA_le hS.1 q h) (fA_le hS.1) (fun r9 u9 t9 H1 locs ht9 hvm9 hw9 hB9 hz9 hk9 hS => ?_)
    obtain ⟨μ4, r5⟩ := u9
    obtain ⟨hP, -⟩ := hB9
    rw [ht9] at hP
    generalize H1 = H at hP hS ⊢
    obtain ⟨e9, hw9⟩ := hw9
    have e9 : r9 = iZ r5 := e9
    subst e9
    simp only at hP hw9
    have hμ4 := hw9; clear hw9
    have hfr := fr_trans hfr (badP_fr hμ4)
    have hrb := badP_r hμ4
    obtain rfl : r5 = 0 := by omega
    refine fz_if_ne (tgt := 50) (by decide) hx hb dX10_pageOf_24 (by decide) (fun h9 => absurd h9 (by decide)) (fun c24_ => ?_)
    refine lv_aload_n hx hb dX10_pageOf_27 rfl (lv_at hl 0 rfl) ?_
    refine lv_iload_n hx hb dX10_pageOf_28 rfl (lv_at hl 2 rfl) ?_
    refine lv_iconst (v := iZ 0) hx hb dX10_pageOf_29 rfl ?_
    refine lv_iconst (v := iZ 4) hx hb dX10_pageOf_30 rfl ?_
    refine va_calli (va_runS (As := [.int (iZ (w)), .int (iZ (0)), .int (iZ (4))]) (rest := [.ref h0]) ⟨hx, hb, hml, hown, hts⟩ (m_in l dC dI cI cZ cII cIII h0 H.size μ4 (w) (0) (4) (by first | assumption | omega | exact ⟨by omega, by omega⟩) (by first | assumption | omega | exact ⟨by omega, by omega⟩) (by first | assumption | omega | exact ⟨by omega, by omega⟩)) (cwS 3 hts (gS_G k1335 k1336 k13 k1337) rfl rfl rfl (by decide +kernel) ⟨Nat.le_of_ble_eq_true rfl, Nat.le_of_ble_eq_true rfl⟩) ⟨fun a U g mk q => by obtain ⟨q0, q1, qP, qK⟩ := q; exact ⟨q0, q1, qP, va_K.moved (u := U) (U := U.calling g mk a) (Vm.Alike.refl U.vm) qK⟩, fun U hU hW => ⟨rfl, by rw [hU], by rw [hU]; exact hP, va_K.moved hW.alike hK⟩⟩ rfl rfl hl.1 rfl (lv_room (Nat.le_of_ble_eq_true rfl)) dX10_pageOf_31 ⟨Nat.le_of_ble_eq_true rfl, Nat.le_of_ble_eq_true rfl⟩) hS (fun q _ h => fA_le hS.1 q h) (fA_le hS.1) (fun r9 u9 t9 H1 locs ht9 hvm9 hw9 hB9 hz9 hk9 hS => ?_)
    obtain ⟨μ6, r7⟩ := u9
    obtain ⟨hP, -⟩ := hB9
    rw [ht9] at hP
    generalize H1 = H at hP hS ⊢
    obtain ⟨e9, hw9⟩ := hw9
    have e9 : r9 = iZ r7 := e9
    subst e9
    simp only at hP hw9
    have hμ6 := hw9; clear hw9
    rw [hμ6.1] at hP; have hμ6 := hμ6.2
    have hin := hμ6
    have hin2 := if_01 hμ6
    refine fz_if_ne (tgt := 41) (by constructor <;> omega) hx hb dX10_pageOf_34 (by decide) (fun c34_ => ?_) (fun c34_ => ?_)
    · refine lv_iconst (v := iZ 0) hx hb dX10_pageOf_41 rfl ?_
      refine lv_iconst (v := iZ 2) hx hb dX10_pageOf_42 rfl ?_
      refine lv_iconst (v := iZ 1) hx hb dX10_pageOf_43 rfl ?_
      refine va_calli (va_runV (As := [.int (iZ (0)), .int (iZ (2)), .int (iZ (1))]) (rest := []) ⟨hx, hb, hml, hown, hts⟩ (m_bad2 l dC dI cI cZ cII cIII h0 H.size μ4 (0) (2) (1) (by first | assumption | omega | exact ⟨by omega, by omega⟩) (by first | assumption | omega | exact ⟨by omega, by omega⟩) (by first | assumption | omega | exact ⟨by omega, by omega⟩) (by first | assumption | omega | exact ⟨by omega, by omega⟩)) (cwV 3 hts (gV_G k1338 k1340 ks_yX10_bad k13 k1341) rfl rfl rfl (by decide +kernel) ⟨Nat.le_of_ble_eq_true rfl, Nat.le_of_ble_eq_true rfl⟩) ⟨fun a U g mk q => by obtain ⟨q0, q1, qP, qK⟩ := q; exact ⟨q0, q1, qP, va_K.moved (u := U) (U := U.calling g mk a) (Vm.Alike.refl U.vm) qK⟩, va_recv hK hP (ci := 10) (q0 := 0) rfl ((fw_get (by decide)).trans (by rw [mE_obj]; rfl)), fun U hU hW => ⟨rfl, by rw [hU], by rw [hU]; exact hP, va_K.moved hW.alike hK⟩⟩ rfl rfl hl.1 rfl (lv_room (Nat.le_of_ble_eq_true rfl)) dX10_pageOf_44 ⟨Nat.le_of_ble_eq_true rfl, Nat.le_of_ble_eq_true rfl⟩) hS (fun q _ h => fA_le hS.1 q h) (fA_le hS.1) (fun r9 u9 t9 H1 locs ht9 hvm9 hw9 hB9 hz9 hk9 hS => ?_)
      obtain ⟨μ8, r10⟩ := u9
      obtain ⟨hP, -⟩ := hB9
      rw [ht9] at hP
      generalize H1 = H at hP hS ⊢
      obtain ⟨e9, hw9⟩ := hw9
      have e9 : r9 = iZ r10 := e9
      subst e9
      simp only at hP hw9
      have hμ8 := hw9; clear hw9
      have hfr := fr_trans hfr (badP_fr hμ8)
      have hrb := badP_r hμ8
      obtain rfl : r10 = 0 := by omega
      refine fz_if_eq (tgt := 52) (by decide) hx hb dX10_pageOf_47 (by decide) (fun c47_ => ?_) (fun h9 => absurd h9 (by decide))
      have hQ2 := RQ_fr hQ hfr
      obtain ⟨k10, ⟨kT, kTb, kTw⟩, kS3, kPg, kw, kwB, kwT⟩ := hQ2
      have e10k := hfr 0 10 (PS_n (by omega))
      have e9k := hfr 0 9 (PS_n (by omega))
      have e71k := hfr 719 0 (PS_n (by omega))
      have ktk := TR_tok kwT kwB.1 kwB.2.1
      have kt1 := ktk.1
      have kt2 := ktk.2.1
      obtain ⟨p1, p2, p3, pw, pw1, pw2, pw3⟩ := kPg pp.toNat (by omega)
      have pwb := rPage_b pw1
      have ptk : tok μ8 (17 + pp).toNat := by rw [show (17 + pp).toNat = 17 + pp.toNat by omega]; exact TR_tok pw3 pw1.1 (by omega)
      have pt1 := ptk.1
      have pt2 := ptk.2.1
      have pTR : TR μ8 (17 + pp).toNat pw := by rw [show (17 + pp).toNat = 17 + pp.toNat by omega]; exact pw3
      refine lv_bipush (v := iZ 17) hx hb dX10_pageOf_52 rfl ?_
      refine lv_iload_n hx hb dX10_pageOf_54 rfl (lv_at hl 1 rfl) ?_
      refine lv_iadd hx hb dX10_pageOf_55 ?_
      refine lv_topi (fun x9 ex9 => ?_)
      obtain rfl : x9 = iZ (17 + pp) := ex9.trans (iZ_add _ _)
      refine lv_istore_n (lv' := [(3, .int (iZ (17 + pp))), (0, .ref h0), (1, .int (iZ (pp))), (2, .int (iZ (w)))]) hx hb dX10_pageOf_56 rfl hl (by decide) rfl (fun ls hl => ?_)
      refine lv_iload_n hx hb dX10_pageOf_57 rfl (lv_at hl 3 rfl) ?_
      refine fz_if_ne (tgt := 70) (by constructor <;> omega) hx hb dX10_pageOf_58 (by decide) (fun c58_ => ?_) (fun c58_ => ?_)
      · refine lv_iload_n hx hb dX10_pageOf_70 rfl (lv_at hl 3 rfl) ?_
        refine lv_iconst (v := iZ 1) hx hb dX10_pageOf_71 rfl ?_
        refine fz_icmp_ne (tgt := 84) (by constructor <;> omega) (by decide) hx hb dX10_pageOf_72 (by decide) (fun c72_ => ?_) (fun c72_ => ?_)
        · refine lv_iload_n hx hb dX10_pageOf_84 rfl (lv_at hl 3 rfl) ?_
          refine lv_iconst (v := iZ 2) hx hb dX10_pageOf_85 rfl ?_
          refine fz_icmp_ne (tgt := 97) (by constructor <;> omega) (by decide) hx hb dX10_pageOf_86 (by decide) (fun c86_ => ?_) (fun c86_ => ?_)
          · refine lv_iload_n hx hb dX10_pageOf_97 rfl (lv_at hl 3 rfl) ?_
            refine lv_iconst (v := iZ 3) hx hb dX10_pageOf_98 rfl ?_
            refine fz_icmp_ne (tgt := 111) (by constructor <;> omega) (by decide) hx hb dX10_pageOf_99 (by decide) (fun c99_ => ?_) (fun c99_ => ?_)
            · refine lv_aload_n hx hb dX10_pageOf_111 rfl (lv_at hl 1 rfl) ?_
              refine lv_iload_n hx hb dX10_pageOf_112 rfl (lv_at hl 0 rfl) ?_
              refine va_calli (va_runV (As := [.int (iZ (17 + pp))]) (rest := []) ⟨hx, hb, hml, hown, hts⟩ (m_deepest l dC dI cI cZ cII cIII h0 H.size μ8 (17 + pp) (by first | assumption | omega | exact ⟨by omega, by omega⟩) (by first | assumption | omega | exact ⟨by omega, by omega⟩)) (cwV 1 hts (gV_G k1588 k1590 ks_yX10_deepest k13 k1591) rfl rfl rfl (by decide +kernel) ⟨Nat.le_of_ble_eq_true rfl, Nat.le_of_ble_eq_true rfl⟩) ⟨fun a U g mk q => by obtain ⟨q0, q1, qP, qK⟩ := q; exact ⟨q0, q1, qP, va_K.moved (u := U) (U := U.calling g mk a) (Vm.Alike.refl U.vm) qK⟩, va_recv hK hP (ci := 10) (q0 := 0) rfl ((fw_get (by decide)).trans (by rw [mE_obj]; rfl)), fun U hU hW => ⟨rfl, by rw [hU], by rw [hU]; exact hP, va_K.moved hW.alike hK⟩⟩ rfl rfl hl.1 rfl (lv_room (Nat.le_of_ble_eq_true rfl)) dX10_pageOf_113 ⟨Nat.le_of_ble_eq_true rfl, Nat.le_of_ble_eq_true rfl⟩) hS (fun q _ h => fA_le hS.1 q h) (fA_le hS.1) (fun r9 u9 t9 H1 locs ht9 hvm9 hw9 hB9 hz9 hk9 hS => ?_)
              obtain ⟨μ11, r12⟩ := u9
              obtain ⟨hP, -⟩ := hB9
              rw [ht9] at hP
              generalize H1 = H at hP hS ⊢
              obtain ⟨e9, hw9⟩ := hw9
              have e9 : r9 = iZ r12 := e9
              subst e9
              simp only at hP hw9
              have hμ11 := hw9; clear hw9
              rw [hμ11.1] at hP; have hμ11 := hμ11.2
              exact W.iret (v := iZ (r12)) hx hb hr (fun t9 ht9 hW9 => ⟨⟨iZ (r12), (μ8, r12), rfl, ⟨rfl, (by
                                    dsimp only
                                    exact ⟨hfr, by omega⟩)⟩, by rw [ht9]; exact hP, va_K.moved hW9.alike hK⟩, hS.F ht9⟩) hS.2.2 dX10_pageOf_116
            · refine lv_aload_n hx hb dX10_pageOf_102 rfl (lv_at hl 1 rfl) ?_
              refine lv_iload_n hx hb dX10_pageOf_103 rfl (lv_at hl 0 rfl) ?_
              refine lv_iconst (v := iZ 4) hx hb dX10_pageOf_104 rfl ?_
              refine va_calli (va_runV (As := [.int (iZ (17 + pp)), .int (iZ (4))]) (rest := []) ⟨hx, hb, hml, hown, hts⟩ (m_ofSort l dC dI cI cZ cII cIII h0 H.size μ8 (17 + pp) (4) (by first | assumption | omega | exact ⟨by omega, by omega⟩) (by first | assumption | omega | exact ⟨by omega, by omega⟩) (by first | assumption | omega | exact ⟨by omega, by omega⟩)) (cwV 2 hts (gV_G k1576 k1578 ks_yX10_ofSort k13 k1579) rfl rfl rfl (by decide +kernel) ⟨Nat.le_of_ble_eq_true rfl, Nat.le_of_ble_eq_true rfl⟩) ⟨fun a U g mk q => by obtain ⟨q0, q1, qP, qK⟩ := q; exact ⟨q0, q1, qP, va_K.moved (u := U) (U := U.calling g mk a) (Vm.Alike.refl U.vm) qK⟩, va_recv hK hP (ci := 10) (q0 := 0) rfl ((fw_get (by decide)).trans (by rw [mE_obj]; rfl)), fun U hU hW => ⟨rfl, by rw [hU], by rw [hU]; exact hP, va_K.moved hW.alike hK⟩⟩ rfl rfl hl.1 rfl (lv_room (Nat.le_of_ble_eq_true rfl)) dX10_pageOf_105 ⟨Nat.le_of_ble_eq_true rfl, Nat.le_of_ble_eq_true rfl⟩) hS (fun q _ h => fA_le hS.1 q h) (fA_le hS.1) (fun r9 u9 t9 H1 locs ht9 hvm9 hw9 hB9 hz9 hk9 hS => ?_)
              obtain ⟨μ13, r14⟩ := u9
              obtain ⟨hP, -⟩ := hB9
              rw [ht9] at hP
              generalize H1 = H at hP hS ⊢
              obtain ⟨e9, hw9⟩ := hw9
              have e9 : r9 = iZ r14 := e9
              subst e9
              simp only at hP hw9
              have hμ13 := hw9; clear hw9
              rw [hμ13.1] at hP; have hμ13 := hμ13.2
              refine lv_goto (tgt := 116) hx hb dX10_pageOf_108 (by decide) ?_
              exact W.iret (v := iZ (r14)) hx hb hr (fun t9 ht9 hW9 => ⟨⟨iZ (r14), (μ8, r14), rfl, ⟨rfl, (by
                                    dsimp only
                                    exact ⟨hfr, by omega⟩)⟩, by rw [ht9]; exact hP, va_K.moved hW9.alike hK⟩, hS.F ht9⟩) hS.2.2 dX10_pageOf_116
          · refine lv_aload_n hx hb dX10_pageOf_89 rfl (lv_at hl 1 rfl) ?_
            refine lv_iload_n hx hb dX10_pageOf_90 rfl (lv_at hl 0 rfl) ?_
            refine va_calli (va_runV (As := [.int (iZ (17 + pp))]) (rest := []) ⟨hx, hb, hml, hown, hts⟩ (m_sizeOfAll2 l dC dI cI cZ cII cIII h0 H.size μ8 (17 + pp) (by first | assumption | omega | exact ⟨by omega, by omega⟩) (by first | assumption | omega | exact ⟨by omega, by omega⟩)) (cwV 1 hts (gV_G k1484 k1486 ks_yX10_sizeOfAll k13 k1487) rfl rfl rfl (by decide +kernel) ⟨Nat.le_of_ble_eq_true rfl, Nat.le_of_ble_eq_true rfl⟩) ⟨fun a U g mk q => by obtain ⟨q0, q1, qP, qK⟩ := q; exact ⟨q0, q1, qP, va_K.moved (u := U) (U := U.calling g mk a) (Vm.Alike.refl U.vm) qK⟩, va_recv hK hP (ci := 10) (q0 := 0) rfl ((fw_get (by decide)).trans (by rw [mE_obj]; rfl)), fun U hU hW => ⟨rfl, by rw [hU], by rw [hU]; exact hP, va_K.moved hW.alike hK⟩⟩ rfl rfl hl.1 rfl (lv_room (Nat.le_of_ble_eq_true rfl)) dX10_pageOf_91 ⟨Nat.le_of_ble_eq_true rfl, Nat.le_of_ble_eq_true rfl⟩) hS (fun q _ h => fA_le hS.1 q h) (fA_le hS.1) (fun r9 u9 t9 H1 locs ht9 hvm9 hw9 hB9 hz9 hk9 hS => ?_)
            obtain ⟨μ15, r16⟩ := u9
            obtain ⟨hP, -⟩ := hB9
            rw [ht9] at hP
            generalize H1 = H at hP hS ⊢
            obtain ⟨e9, hw9⟩ := hw9
            have e9 : r9 = iZ r16 := e9
            subst e9
            simp only at hP hw9
            have hμ15 := hw9; clear hw9
            rw [hμ15.1] at hP; have hμ15 := hμ15.2
            refine lv_goto (tgt := 116) hx hb dX10_pageOf_94 (by decide) ?_
            exact W.iret (v := iZ (r16)) hx hb hr (fun t9 ht9 hW9 => ⟨⟨iZ (r16), (μ8, r16), rfl, ⟨rfl, (by
                                dsimp only
                                exact ⟨hfr, by omega⟩)⟩, by rw [ht9]; exact hP, va_K.moved hW9.alike hK⟩, hS.F ht9⟩) hS.2.2 dX10_pageOf_116
        · refine lv_aload_n hx hb dX10_pageOf_75 rfl (lv_at hl 1 rfl) ?_
          refine fz_get (D := (dC, dI)) (ci := 10) (v := .ref (h0 + 719)) (C := RX10) (T := TX10) (N := 53) hx hb hts inG10 hown hK hP (k := 0) (by decide) (F := mF h0) mE_obj rfl 21 (by decide) (hts _ k1187) (fun _ h9 => h9) rfl dX10_pageOf_76 ?_
          refine lv_iload_n hx hb dX10_pageOf_79 rfl (lv_at hl 0 rfl) ?_
          refine fz_ld (k := 719) (n := 70) hx hb hK hP 0 (by decide) mE_nodes rfl ⟨by omega, by omega⟩ (by decide) dX10_pageOf_80 ?_
          refine lv_goto (tgt := 116) hx hb dX10_pageOf_81 (by decide) ?_
          exact W.iret (v := iZ (μ8 719 (17 + pp).toNat)) hx hb hr (fun t9 ht9 hW9 => ⟨⟨iZ (μ8 719 (17 + pp).toNat), (μ8, μ8 719 (17 + pp).toNat), rfl, ⟨rfl, (by
                            dsimp only
                            exact ⟨hfr, by omega⟩)⟩, by rw [ht9]; exact hP, va_K.moved hW9.alike hK⟩, hS.F ht9⟩) hS.2.2 dX10_pageOf_116
      · refine lv_aload_n hx hb dX10_pageOf_61 rfl (lv_at hl 1 rfl) ?_
        refine fz_get (D := (dC, dI)) (ci := 10) (v := .ref (h0 + 15)) (C := RX10) (T := TX10) (N := 53) hx hb hts inG10 hown hK hP (k := 0) (by decide) (F := mF h0) mE_obj rfl 15 (by decide) (hts _ k1181) (fun _ h9 => h9) rfl dX10_pageOf_62 ?_
        refine lv_iload_n hx hb dX10_pageOf_65 rfl (lv_at hl 2 rfl) ?_
        refine fz_ld (k := 15) (n := 8) hx hb hK hP 0 (by decide) mE_pageLong rfl ⟨by omega, by omega⟩ (by decide) dX10_pageOf_66 ?_
        refine lv_goto (tgt := 116) hx hb dX10_pageOf_67 (by decide) ?_
        exact W.iret (v := iZ (μ8 15 (pp).toNat)) hx hb hr (fun t9 ht9 hW9 => ⟨⟨iZ (μ8 15 (pp).toNat), (μ8, μ8 15 (pp).toNat), rfl, ⟨rfl, (by
                        dsimp only
                        exact ⟨hfr, by omega⟩)⟩, by rw [ht9]; exact hP, va_K.moved hW9.alike hK⟩, hS.F ht9⟩) hS.2.2 dX10_pageOf_116
    · refine lv_iconst (v := iZ 1) hx hb dX10_pageOf_37 rfl ?_
      refine lv_goto (tgt := 42) hx hb dX10_pageOf_38 (by decide) ?_
      refine lv_iconst (v := iZ 2) hx hb dX10_pageOf_42 rfl ?_
      refine lv_iconst (v := iZ 1) hx hb dX10_pageOf_43 rfl ?_
      refine va_calli (va_runV (As := [.int (iZ (1)), .int (iZ (2)), .int (iZ (1))]) (rest := []) ⟨hx, hb, hml, hown, hts⟩ (m_bad2 l dC dI cI cZ cII cIII h0 H.size μ4 (1) (2) (1) (by first | assumption | omega | exact ⟨by omega, by omega⟩) (by first | assumption | omega | exact ⟨by omega, by omega⟩) (by first | assumption | omega | exact ⟨by omega, by omega⟩) (by first | assumption | omega | exact ⟨by omega, by omega⟩)) (cwV 3 hts (gV_G k1338 k1340 ks_yX10_bad k13 k1341) rfl rfl rfl (by decide +kernel) ⟨Nat.le_of_ble_eq_true rfl, Nat.le_of_ble_eq_true rfl⟩) ⟨fun a U g mk q => by obtain ⟨q0, q1, qP, qK⟩ := q; exact ⟨q0, q1, qP, va_K.moved (u := U) (U := U.calling g mk a) (Vm.Alike.refl U.vm) qK⟩, va_recv hK hP (ci := 10) (q0 := 0) rfl ((fw_get (by decide)).trans (by rw [mE_obj]; rfl)), fun U hU hW => ⟨rfl, by rw [hU], by rw [hU]; exact hP, va_K.moved hW.alike hK⟩⟩ rfl rfl hl.1 rfl (lv_room (Nat.le_of_ble_eq_true rfl)) dX10_pageOf_44 ⟨Nat.le_of_ble_eq_true rfl, Nat.le_of_ble_eq_true rfl⟩) hS (fun q _ h => fA_le hS.1 q h) (fA_le hS.1) (fun r9 u9 t9 H1 locs ht9 hvm9 hw9 hB9 hz9 hk9 hS => ?_)
      obtain ⟨μ17, r18⟩ := u9
      obtain ⟨hP, -⟩ := hB9
      rw [ht9] at hP
      generalize H1 = H at hP hS ⊢
      obtain ⟨e9, hw9⟩ := hw9
      have e9 : r9 = iZ r18 := e9
      subst e9
      simp only at hP hw9
      have hμ17 := hw9; clear hw9
      have hfr := fr_trans hfr (badP_fr hμ17)
      have hrb := badP_r hμ17
      obtain rfl : r18 = 1 := by omega
      refine fz_if_eq (tgt := 52) (by decide) hx hb dX10_pageOf_47 (by decide) (fun h9 => absurd h9 (by decide)) (fun c47_ => ?_)
      refine lv_iconst (v := iZ 0) hx hb dX10_pageOf_50 rfl ?_
      exact W.iret (v := iZ (0)) hx hb hr (fun t9 ht9 hW9 => ⟨⟨iZ (0), (μ17, 0), rfl, ⟨rfl, (by
                    dsimp only
                    exact ⟨hfr, by omega⟩)⟩, by rw [ht9]; exact hP, va_K.moved hW9.alike hK⟩, hS.F ht9⟩) hS.2.2 dX10_pageOf_51
  · refine lv_iconst (v := iZ 1) hx hb dX10_pageOf_14 rfl ?_
    refine lv_goto (tgt := 19) hx hb dX10_pageOf_15 (by decide) ?_
    refine lv_iconst (v := iZ 1) hx hb dX10_pageOf_19 rfl ?_
    refine lv_iconst (v := iZ 0) hx hb dX10_pageOf_20 rfl ?_
    refine va_calli (va_runV (As := [.int (iZ (1)), .int (iZ (1)), .int (iZ (0))]) (rest := []) ⟨hx, hb, hml, hown, hts⟩ (m_bad2 l dC dI cI cZ cII cIII h0 H.size μ1 (1) (1) (0) (by first | assumption | omega | exact ⟨by omega, by omega⟩) (by first | assumption | omega | exact ⟨by omega, by omega⟩) (by first | assumption | omega | exact ⟨by omega, by omega⟩) (by first | assumption | omega | exact ⟨by omega, by omega⟩)) (cwV 3 hts (gV_G k1338 k1340 ks_yX10_bad k13 k1341) rfl rfl rfl (by decide +kernel) ⟨Nat.le_of_ble_eq_true rfl, Nat.le_of_ble_eq_true rfl⟩) ⟨fun a U g mk q => by obtain ⟨q0, q1, qP, qK⟩ := q; exact ⟨q0, q1, qP, va_K.moved (u := U) (U := U.calling g mk a) (Vm.Alike.refl U.vm) qK⟩, va_recv hK hP (ci := 10) (q0 := 0) rfl ((fw_get (by decide)).trans (by rw [mE_obj]; rfl)), fun U hU hW => ⟨rfl, by rw [hU], by rw [hU]; exact hP, va_K.moved hW.alike hK⟩⟩ rfl rfl hl.1 rfl (lv_room (Nat.le_of_ble_eq_true rfl)) dX10_pageOf_21 ⟨Nat.le_of_ble_eq_true rfl, Nat.le_of_ble_eq_true rfl⟩) hS (fun q _ h => fA_le hS.1 q h) (fA_le hS.1) (fun r9 u9 t9 H1 locs ht9 hvm9 hw9 hB9 hz9 hk9 hS => ?_)
    obtain ⟨μ19, r20⟩ := u9
    obtain ⟨hP, -⟩ := hB9
    rw [ht9] at hP
    generalize H1 = H at hP hS ⊢
    obtain ⟨e9, hw9⟩ := hw9
    have e9 : r9 = iZ r20 := e9
    subst e9
    simp only at hP hw9
    have hμ19 := hw9; clear hw9
    have hfr := fr_trans hfr (badP_fr hμ19)
    have hrb := badP_r hμ19
    obtain rfl : r20 = 1 := by omega
    refine fz_if_ne (tgt := 50) (by decide) hx hb dX10_pageOf_24 (by decide) (fun c24_ => ?_) (fun h9 => absurd h9 (by decide))
    refine lv_iconst (v := iZ 0) hx hb dX10_pageOf_50 rfl ?_
    exact W.iret (v := iZ (0)) hx hb hr (fun t9 ht9 hW9 => ⟨⟨iZ (0), (μ19, 0), rfl, ⟨rfl, (by
                dsimp only
                exact ⟨hfr, by omega⟩)⟩, by rw [ht9]; exact hP, va_K.moved hW9.alike hK⟩, hS.F ht9⟩) hS.2.2 dX10_pageOf_51
set_option maxHeartbeats 4000000 in
set_option maxRecDepth 100000 in
theorem m_token (l : Launch) (dC : Nat → ClassId) (dI : Nat → Nat → Nat) (cI cZ cII cIII : ClassId) (h0 sz : Nat) (μ : va_M) (pp : Int) (k : Int) (hQ : RQ μ) (hp : inR pp) (hk9 : inR k) : Met l yX10_token (Cond.code yX10_token cX10_token 4 (some .int) :: wsG) ({ frames := 3, cells := 0, slots := 0, locals := 57 } : Room) (va_Pc [.ref h0, .int (iZ (pp)), .int (iZ (k))] (fun U => U.heap.size = sz ∧ va_P (dC, dI) vwCl (fw (mE cI cZ cII cIII h0) h0 6325 μ) U.heap ∧ va_K (dC, dI) vwCl (mT cI cZ cII cIII) U)) (va_Qi (fun (r9 : Int32) (u : va_M × Int) => r9 = iZ u.2 ∧ (fun (u : va_M) (r : Int) => fr PS μ u ∧ (u 0 0 = 0 ∨ u 0 0 = 1 ∨ u 0 0 = 2)) u.1 u.2) (fun u t => va_P (dC, dI) vwCl (fw (mE cI cZ cII cIII h0) h0 6325 u.1) t.heap ∧ va_K (dC, dI) vwCl (mT cI cZ cII cIII) t) (fA h0 6325 sz)) 0 0 (fA h0 6325 sz) := by
  refine Met.ofW (cc := cX10_token) (maxL := 4) (ret := (some .int)) (by decide) rfl ?_
  intro p e s m args below meth c s₁ B hml hv
  obtain ⟨rfl, hsz, hP, hK⟩ := hv
  have hx := B.exec
  have hb := B.bytes
  have hr := B.returns
  have hts : ∀ w ∈ wsG, w.before _ s = true := hG_of (atoms_spec (ws := (Cond.code yX10_token cX10_token 4 (some .int) :: wsG)) B.pre)
  have hown : s.vm.findClass RX10 = some m.cls := findClass_of_methodNamed B.named
  have hlocks := B.notSynchronized
  subst hsz
  have hS : va_S (fA h0 6325 s.heap.size) s.heap s.heap [] := va_S.rf
  have hl := lv_entry ([.ref h0, .int (iZ (pp)), .int (iZ (k))]) (n := 4) (Nat.le_of_ble_eq_true rfl)
  rw [lg_entry_eq]
  generalize (lg_sl ([.ref h0, .int (iZ (pp)), .int (iZ (k))]) ++ List.replicate (4 - (lg_sl ([.ref h0, .int (iZ (pp)), .int (iZ (k))])).length) Slot.unset).toArray = ls at hl ⊢
  have hl : lv_has ls 4 [(0, .ref h0), (1, .int (iZ (pp))), (2, .int (iZ (k)))] := hl
  refine lv_aload_n hx hb dX10_token_0 rfl (lv_at hl 0 rfl) ?_
  refine lv_iconst (v := iZ 0) hx hb dX10_token_1 rfl ?_
  refine fz_put (D := (dC, dI)) (ci := 10) (ty := .int) (z := 0) (C := RX10) (T := TX10) (N := 53) hx hb hts inG10 tyX10 tyX10_ok nmX10 hown hK hP fA_in hS (k := 0) (by decide) (F := mF h0) mE_obj rfl 0 (by decide) (hts _ k1166) (fun _ h9 => h9) rfl (by decide +kernel) rfl rfl (fun _ => Nat.le_of_ble_eq_true rfl) (fun _ _ => rfl) dX10_token_2 (fun H locs hP hS => ?_)
  obtain ⟨μ1, eμ1⟩ : ∃ x : va_M, x = uz μ 0 0 (0) := ⟨_, rfl⟩
  rw [← eμ1] at hP
  have hfr : fr PS μ μ1 := by rw [eμ1]; exact fr_uz fr_rfl (by unfold PS; omega)
  have ht0 : μ1 0 0 = 0 := by rw [eμ1, uz_s]
  have e10 := hfr 0 10 (PS_n (by omega))
  have e9 := hfr 0 9 (PS_n (by omega))
  have e71 := hfr 719 0 (PS_n (by omega))
  have hQ1 := RQ_fr hQ hfr
  have hQc := hQ
  obtain ⟨f10, ⟨fT, fTb, fTw⟩, fS3, fPg, fw9, fwB, fwT⟩ := hQc
  obtain ⟨g10, ⟨gT, gTb, gTw⟩, gS3, gPg, gw, gwB, gwT⟩ := hQ1
  have gtk := TR_tok gwT gwB.1 gwB.2.1
  have gt1 := gtk.1
  have gt2 := gtk.2.1
  refine lv_aload_n hx hb dX10_token_5 rfl (lv_at hl 0 rfl) ?_
  refine lv_iload_n hx hb dX10_token_6 rfl (lv_at hl 1 rfl) ?_
  refine va_calli (va_runV (As := [.int (iZ (pp))]) (rest := []) ⟨hx, hb, hml, hown, hts⟩ (m_isPage l dC dI cI cZ cII cIII h0 H.size μ1 (pp) (by first | assumption | omega | exact ⟨by omega, by omega⟩) (by first | assumption | omega | exact ⟨by omega, by omega⟩)) (cwV 1 hts (gV_G k1584 k1586 ks_yX10_isPage k13 k1587) rfl rfl rfl (by decide +kernel) ⟨Nat.le_of_ble_eq_true rfl, Nat.le_of_ble_eq_true rfl⟩) ⟨fun a U g mk q => by obtain ⟨q0, q1, qP, qK⟩ := q; exact ⟨q0, q1, qP, va_K.moved (u := U) (U := U.calling g mk a) (Vm.Alike.refl U.vm) qK⟩, va_recv hK hP (ci := 10) (q0 := 0) rfl ((fw_get (by decide)).trans (by rw [mE_obj]; rfl)), fun U hU hW => ⟨rfl, by rw [hU], by rw [hU]; exact hP, va_K.moved hW.alike hK⟩⟩ rfl rfl hl.1 rfl (lv_room (Nat.le_of_ble_eq_true rfl)) dX10_token_7 ⟨Nat.le_of_ble_eq_true rfl, Nat.le_of_ble_eq_true rfl⟩) hS (fun q _ h => fA_le hS.1 q h) (fA_le hS.1) (fun r9 u9 t9 H1 locs ht9 hvm9 hw9 hB9 hz9 hk9 hS => ?_)
  obtain ⟨μ2, r3⟩ := u9
  obtain ⟨hP, -⟩ := hB9
  rw [ht9] at hP
  generalize H1 = H at hP hS ⊢
  obtain ⟨e9, hw9⟩ := hw9
  have e9 : r9 = iZ r3 := e9
  subst e9
  simp only at hP hw9
  have hμ2 := hw9; clear hw9
  rw [hμ2.1] at hP; have hμ2 := hμ2.2
  have hip := hμ2
  have hip2 := if_01 hμ2
  refine fz_if_eq (tgt := 33) (by constructor <;> omega) hx hb dX10_token_10 (by decide) (fun c10_ => ?_) (fun c10_ => ?_)
  · refine lv_iconst (v := iZ 0) hx hb dX10_token_33 rfl ?_
    refine lv_istore_n (lv' := [(3, .int (iZ (0))), (0, .ref h0), (1, .int (iZ (pp))), (2, .int (iZ (k)))]) hx hb dX10_token_34 rfl hl (by decide) rfl (fun ls hl => ?_)
    refine lv_aload_n hx hb dX10_token_35 rfl (lv_at hl 1 rfl) ?_
    refine lv_iload_n hx hb dX10_token_36 rfl (lv_at hl 0 rfl) ?_
    refine fz_if_ne (tgt := 44) (by decide) hx hb dX10_token_37 (by decide) (fun h9 => absurd h9 (by decide)) (fun c37_ => ?_)
    refine lv_iconst (v := iZ 1) hx hb dX10_token_40 rfl ?_
    refine lv_goto (tgt := 45) hx hb dX10_token_41 (by decide) ?_
    refine lv_iconst (v := iZ 1) hx hb dX10_token_45 rfl ?_
    refine lv_iconst (v := iZ 0) hx hb dX10_token_46 rfl ?_
    refine va_calli (va_runV (As := [.int (iZ (1)), .int (iZ (1)), .int (iZ (0))]) (rest := []) ⟨hx, hb, hml, hown, hts⟩ (m_bad2 l dC dI cI cZ cII cIII h0 H.size μ1 (1) (1) (0) (by first | assumption | omega | exact ⟨by omega, by omega⟩) (by first | assumption | omega | exact ⟨by omega, by omega⟩) (by first | assumption | omega | exact ⟨by omega, by omega⟩) (by first | assumption | omega | exact ⟨by omega, by omega⟩)) (cwV 3 hts (gV_G k1338 k1340 ks_yX10_bad k13 k1341) rfl rfl rfl (by decide +kernel) ⟨Nat.le_of_ble_eq_true rfl, Nat.le_of_ble_eq_true rfl⟩) ⟨fun a U g mk q => by obtain ⟨q0, q1, qP, qK⟩ := q; exact ⟨q0, q1, qP, va_K.moved (u := U) (U := U.calling g mk a) (Vm.Alike.refl U.vm) qK⟩, va_recv hK hP (ci := 10) (q0 := 0) rfl ((fw_get (by decide)).trans (by rw [mE_obj]; rfl)), fun U hU hW => ⟨rfl, by rw [hU], by rw [hU]; exact hP, va_K.moved hW.alike hK⟩⟩ rfl rfl hl.1 rfl (lv_room (Nat.le_of_ble_eq_true rfl)) dX10_token_47 ⟨Nat.le_of_ble_eq_true rfl, Nat.le_of_ble_eq_true rfl⟩) hS (fun q _ h => fA_le hS.1 q h) (fA_le hS.1) (fun r9 u9 t9 H1 locs ht9 hvm9 hw9 hB9 hz9 hk9 hS => ?_)
    obtain ⟨μ4, r5⟩ := u9
    obtain ⟨hP, -⟩ := hB9
    rw [ht9] at hP
    generalize H1 = H at hP hS ⊢
    obtain ⟨e9, hw9⟩ := hw9
    have e9 : r9 = iZ r5 := e9
    subst e9
    simp only at hP hw9
    have hμ4 := hw9; clear hw9
    have hfr := fr_trans hfr (badP_fr hμ4)
    have hrb := badP_r hμ4
    obtain rfl : r5 = 1 := by omega
    refine fz_if_eq (tgt := 55) (by decide) hx hb dX10_token_50 (by decide) (fun h9 => absurd h9 (by decide)) (fun c50_ => ?_)
    refine lv_iconst (v := iZ 0) hx hb dX10_token_53 rfl ?_
    exact W.iret (v := iZ (0)) hx hb hr (fun t9 ht9 hW9 => ⟨⟨iZ (0), (μ4, 0), rfl, ⟨rfl, (by
                dsimp only
                exact ⟨hfr, by omega⟩)⟩, by rw [ht9]; exact hP, va_K.moved hW9.alike hK⟩, hS.F ht9⟩) hS.2.2 dX10_token_54
  · have hpp := if_get hip (by omega)
    obtain ⟨q1, q2, q3, qw, qw1, qw2, qw3⟩ := fPg pp.toNat (by omega)
    refine lv_iload_n hx hb dX10_token_13 rfl (lv_at hl 2 rfl) ?_
    refine lv_iconst (v := iZ 0) hx hb dX10_token_14 rfl ?_
    refine lv_aload_n hx hb dX10_token_15 rfl (lv_at hl 0 rfl) ?_
    refine fz_get (D := (dC, dI)) (ci := 10) (v := .ref (h0 + 15)) (C := RX10) (T := TX10) (N := 53) hx hb hts inG10 hown hK hP (k := 0) (by decide) (F := mF h0) mE_obj rfl 15 (by decide) (hts _ k1181) (fun _ h9 => h9) rfl dX10_token_16 ?_
    refine lv_iload_n hx hb dX10_token_19 rfl (lv_at hl 1 rfl) ?_
    refine fz_ld (k := 15) (n := 8) hx hb hK hP 0 (by decide) mE_pageLong rfl ⟨by omega, by omega⟩ (by decide) dX10_token_20 ?_
    rw [show μ1 15 (pp).toNat = μ 15 (pp).toNat from by rw [eμ1, uz_n (by omega)]]
    refine lv_iconst (v := iZ 1) hx hb dX10_token_21 rfl ?_
    refine lv_isub hx hb dX10_token_22 ?_
    refine lv_topi (fun x9 ex9 => ?_)
    obtain rfl : x9 = iZ ((μ 15 (pp).toNat) - 1) := ex9.trans (iZ_sub _ _)
    refine va_calli (va_runS (As := [.int (iZ (k)), .int (iZ (0)), .int (iZ ((μ 15 (pp).toNat) - 1))]) (rest := []) ⟨hx, hb, hml, hown, hts⟩ (m_in l dC dI cI cZ cII cIII h0 H.size μ1 (k) (0) ((μ 15 (pp).toNat) - 1) (by first | assumption | omega | exact ⟨by omega, by omega⟩) (by first | assumption | omega | exact ⟨by omega, by omega⟩) (by first | assumption | omega | exact ⟨by omega, by omega⟩)) (cwS 3 hts (gS_G k1335 k1336 k13 k1337) rfl rfl rfl (by decide +kernel) ⟨Nat.le_of_ble_eq_true rfl, Nat.le_of_ble_eq_true rfl⟩) ⟨fun a U g mk q => by obtain ⟨q0, q1, qP, qK⟩ := q; exact ⟨q0, q1, qP, va_K.moved (u := U) (U := U.calling g mk a) (Vm.Alike.refl U.vm) qK⟩, fun U hU hW => ⟨rfl, by rw [hU], by rw [hU]; exact hP, va_K.moved hW.alike hK⟩⟩ rfl rfl hl.1 rfl (lv_room (Nat.le_of_ble_eq_true rfl)) dX10_token_23 ⟨Nat.le_of_ble_eq_true rfl, Nat.le_of_ble_eq_true rfl⟩) hS (fun q _ h => fA_le hS.1 q h) (fA_le hS.1) (fun r9 u9 t9 H1 locs ht9 hvm9 hw9 hB9 hz9 hk9 hS => ?_)
    obtain ⟨μ6, r7⟩ := u9
    obtain ⟨hP, -⟩ := hB9
    rw [ht9] at hP
    generalize H1 = H at hP hS ⊢
    obtain ⟨e9, hw9⟩ := hw9
    have e9 : r9 = iZ r7 := e9
    subst e9
    simp only at hP hw9
    have hμ6 := hw9; clear hw9
    rw [hμ6.1] at hP; have hμ6 := hμ6.2
    have hin := hμ6
    have hin2 := if_01 hμ6
    refine fz_if_eq (tgt := 33) (by constructor <;> omega) hx hb dX10_token_26 (by decide) (fun c26_ => ?_) (fun c26_ => ?_)
    · refine lv_iconst (v := iZ 0) hx hb dX10_token_33 rfl ?_
      refine lv_istore_n (lv' := [(3, .int (iZ (0))), (0, .ref h0), (1, .int (iZ (pp))), (2, .int (iZ (k)))]) hx hb dX10_token_34 rfl hl (by decide) rfl (fun ls hl => ?_)
      refine lv_aload_n hx hb dX10_token_35 rfl (lv_at hl 1 rfl) ?_
      refine lv_iload_n hx hb dX10_token_36 rfl (lv_at hl 0 rfl) ?_
      refine fz_if_ne (tgt := 44) (by decide) hx hb dX10_token_37 (by decide) (fun h9 => absurd h9 (by decide)) (fun c37_ => ?_)
      refine lv_iconst (v := iZ 1) hx hb dX10_token_40 rfl ?_
      refine lv_goto (tgt := 45) hx hb dX10_token_41 (by decide) ?_
      refine lv_iconst (v := iZ 1) hx hb dX10_token_45 rfl ?_
      refine lv_iconst (v := iZ 0) hx hb dX10_token_46 rfl ?_
      refine va_calli (va_runV (As := [.int (iZ (1)), .int (iZ (1)), .int (iZ (0))]) (rest := []) ⟨hx, hb, hml, hown, hts⟩ (m_bad2 l dC dI cI cZ cII cIII h0 H.size μ1 (1) (1) (0) (by first | assumption | omega | exact ⟨by omega, by omega⟩) (by first | assumption | omega | exact ⟨by omega, by omega⟩) (by first | assumption | omega | exact ⟨by omega, by omega⟩) (by first | assumption | omega | exact ⟨by omega, by omega⟩)) (cwV 3 hts (gV_G k1338 k1340 ks_yX10_bad k13 k1341) rfl rfl rfl (by decide +kernel) ⟨Nat.le_of_ble_eq_true rfl, Nat.le_of_ble_eq_true rfl⟩) ⟨fun a U g mk q => by obtain ⟨q0, q1, qP, qK⟩ := q; exact ⟨q0, q1, qP, va_K.moved (u := U) (U := U.calling g mk a) (Vm.Alike.refl U.vm) qK⟩, va_recv hK hP (ci := 10) (q0 := 0) rfl ((fw_get (by decide)).trans (by rw [mE_obj]; rfl)), fun U hU hW => ⟨rfl, by rw [hU], by rw [hU]; exact hP, va_K.moved hW.alike hK⟩⟩ rfl rfl hl.1 rfl (lv_room (Nat.le_of_ble_eq_true rfl)) dX10_token_47 ⟨Nat.le_of_ble_eq_true rfl, Nat.le_of_ble_eq_true rfl⟩) hS (fun q _ h => fA_le hS.1 q h) (fA_le hS.1) (fun r9 u9 t9 H1 locs ht9 hvm9 hw9 hB9 hz9 hk9 hS => ?_)
      obtain ⟨μ8, r10⟩ := u9
      obtain ⟨hP, -⟩ := hB9
      rw [ht9] at hP
      generalize H1 = H at hP hS ⊢
      obtain ⟨e9, hw9⟩ := hw9
      have e9 : r9 = iZ r10 := e9
      subst e9
      simp only at hP hw9
      have hμ8 := hw9; clear hw9
      have hfr := fr_trans hfr (badP_fr hμ8)
      have hrb := badP_r hμ8
      obtain rfl : r10 = 1 := by omega
      refine fz_if_eq (tgt := 55) (by decide) hx hb dX10_token_50 (by decide) (fun h9 => absurd h9 (by decide)) (fun c50_ => ?_)
      refine lv_iconst (v := iZ 0) hx hb dX10_token_53 rfl ?_
      exact W.iret (v := iZ (0)) hx hb hr (fun t9 ht9 hW9 => ⟨⟨iZ (0), (μ8, 0), rfl, ⟨rfl, (by
                    dsimp only
                    exact ⟨hfr, by omega⟩)⟩, by rw [ht9]; exact hP, va_K.moved hW9.alike hK⟩, hS.F ht9⟩) hS.2.2 dX10_token_54
    · have hkk := if_get hin (by omega)
      refine lv_iconst (v := iZ 1) hx hb dX10_token_29 rfl ?_
      refine lv_goto (tgt := 34) hx hb dX10_token_30 (by decide) ?_
      refine lv_istore_n (lv' := [(3, .int (iZ (1))), (0, .ref h0), (1, .int (iZ (pp))), (2, .int (iZ (k)))]) hx hb dX10_token_34 rfl hl (by decide) rfl (fun ls hl => ?_)
      refine lv_aload_n hx hb dX10_token_35 rfl (lv_at hl 1 rfl) ?_
      refine lv_iload_n hx hb dX10_token_36 rfl (lv_at hl 0 rfl) ?_
      refine fz_if_ne (tgt := 44) (by decide) hx hb dX10_token_37 (by decide) (fun c37_ => ?_) (fun h9 => absurd h9 (by decide))
      refine lv_iconst (v := iZ 0) hx hb dX10_token_44 rfl ?_
      refine lv_iconst (v := iZ 1) hx hb dX10_token_45 rfl ?_
      refine lv_iconst (v := iZ 0) hx hb dX10_token_46 rfl ?_
      refine va_calli (va_runV (As := [.int (iZ (0)), .int (iZ (1)), .int (iZ (0))]) (rest := []) ⟨hx, hb, hml, hown, hts⟩ (m_bad2 l dC dI cI cZ cII cIII h0 H.size μ1 (0) (1) (0) (by first | assumption | omega | exact ⟨by omega, by omega⟩) (by first | assumption | omega | exact ⟨by omega, by omega⟩) (by first | assumption | omega | exact ⟨by omega, by omega⟩) (by first | assumption | omega | exact ⟨by omega, by omega⟩)) (cwV 3 hts (gV_G k1338 k1340 ks_yX10_bad k13 k1341) rfl rfl rfl (by decide +kernel) ⟨Nat.le_of_ble_eq_true rfl, Nat.le_of_ble_eq_true rfl⟩) ⟨fun a U g mk q => by obtain ⟨q0, q1, qP, qK⟩ := q; exact ⟨q0, q1, qP, va_K.moved (u := U) (U := U.calling g mk a) (Vm.Alike.refl U.vm) qK⟩, va_recv hK hP (ci := 10) (q0 := 0) rfl ((fw_get (by decide)).trans (by rw [mE_obj]; rfl)), fun U hU hW => ⟨rfl, by rw [hU], by rw [hU]; exact hP, va_K.moved hW.alike hK⟩⟩ rfl rfl hl.1 rfl (lv_room (Nat.le_of_ble_eq_true rfl)) dX10_token_47 ⟨Nat.le_of_ble_eq_true rfl, Nat.le_of_ble_eq_true rfl⟩) hS (fun q _ h => fA_le hS.1 q h) (fA_le hS.1) (fun r9 u9 t9 H1 locs ht9 hvm9 hw9 hB9 hz9 hk9 hS => ?_)
      obtain ⟨μ11, r12⟩ := u9
      obtain ⟨hP, -⟩ := hB9
      rw [ht9] at hP
      generalize H1 = H at hP hS ⊢
      obtain ⟨e9, hw9⟩ := hw9
      have e9 : r9 = iZ r12 := e9
      subst e9
      simp only at hP hw9
      have hμ11 := hw9; clear hw9
      have hfr := fr_trans hfr (badP_fr hμ11)
      have hrb := badP_r hμ11
      obtain rfl : r12 = 0 := by omega
      refine fz_if_eq (tgt := 55) (by decide) hx hb dX10_token_50 (by decide) (fun c50_ => ?_) (fun h9 => absurd h9 (by decide))
      have hQ2 := RQ_fr hQ hfr
      obtain ⟨k10, ⟨kT, kTb, kTw⟩, kS3, kPg, kw, kwB, kwT⟩ := hQ2
      have e10k := hfr 0 10 (PS_n (by omega))
      have e9k := hfr 0 9 (PS_n (by omega))
      have e71k := hfr 719 0 (PS_n (by omega))
      have ktk := TR_tok kwT kwB.1 kwB.2.1
      have kt1 := ktk.1
      have kt2 := ktk.2.1
      obtain ⟨p1, p2, p3, pw, pw1, pw2, pw3⟩ := kPg pp.toNat (by omega)
      have pwb := rPage_b pw1
      have ptk : tok μ11 (17 + pp).toNat := by rw [show (17 + pp).toNat = 17 + pp.toNat by omega]; exact TR_tok pw3 pw1.1 (by omega)
      have pt1 := ptk.1
      have pt2 := ptk.2.1
      have pTR : TR μ11 (17 + pp).toNat pw := by rw [show (17 + pp).toNat = 17 + pp.toNat by omega]; exact pw3
      refine lv_aload_n hx hb dX10_token_55 rfl (lv_at hl 1 rfl) ?_
      refine fz_get (D := (dC, dI)) (ci := 10) (v := .ref (h0 + 6)) (C := RX10) (T := TX10) (N := 53) hx hb hts inG10 hown hK hP (k := 0) (by decide) (F := mF h0) mE_obj rfl 14 (by decide) (hts _ k1180) (fun _ h9 => h9) rfl dX10_token_56 ?_
      refine lv_iload_n hx hb dX10_token_59 rfl (lv_at hl 2 rfl) ?_
      refine fz_ald (k := 6) (n := 8) (k2 := (7 + (pp).toNat)) hx hb hK hP 2 rfl (by decide) mE_page rfl ⟨by omega, by omega⟩ (by decide) (if_pos (by omega)) dX10_token_60 ?_
      refine lv_iload_n hx hb dX10_token_61 rfl (lv_at hl 3 rfl) ?_
      refine fz_ld (k := (7 + (pp).toNat)) (n := 60) hx hb hK hP 0 (by omega) (mE_pageR (by omega)) rfl ⟨by omega, by omega⟩ (by decide) dX10_token_62 ?_
      exact W.iret (v := iZ (μ11 (7 + (pp).toNat) (k).toNat)) hx hb hr (fun t9 ht9 hW9 => ⟨⟨iZ (μ11 (7 + (pp).toNat) (k).toNat), (μ11, μ11 (7 + (pp).toNat) (k).toNat), rfl, ⟨rfl, (by
                    dsimp only
                    exact ⟨hfr, by omega⟩)⟩, by rw [ht9]; exact hP, va_K.moved hW9.alike hK⟩, hS.F ht9⟩) hS.2.2 dX10_token_63

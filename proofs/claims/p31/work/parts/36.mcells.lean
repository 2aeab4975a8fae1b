set_option maxRecDepth 100000 in
theorem k1596 : (Cond.methodLink "PageSkeletonModel" (340 : Nat) ({ cls := "PageSkeletonModel", name := "depthOf", desc := "(III)I" } : MethodName)) ∈ wsG := wsG_a7 156 rfl rfl
set_option maxRecDepth 100000 in
theorem k1598 : (Cond.instanceMethod ({ cls := "PageSkeletonModel", name := "depthOf", desc := "(III)I" } : MethodName)) ∈ wsG := wsG_a7 158 rfl rfl
set_option maxRecDepth 100000 in
theorem k1599 : (Cond.code ({ cls := "PageSkeletonModel", name := "depthOf", desc := "(III)I" } : MethodName) prog_12_method_62_code (6 : Nat) (Option.some FieldType.int)) ∈ wsG := wsG_a7 159 rfl rfl
set_option maxRecDepth 100000 in
theorem k1600 : (Cond.methodLink "PageSkeletonModel" (343 : Nat) ({ cls := "PageSkeletonModel", name := "more", desc := "(II)I" } : MethodName)) ∈ wsG := wsG_a7 160 rfl rfl
set_option maxRecDepth 100000 in
theorem k1601 : (Cond.static ({ cls := "PageSkeletonModel", name := "more", desc := "(II)I" } : MethodName)) ∈ wsG := wsG_a7 161 rfl rfl
set_option maxRecDepth 100000 in
theorem k1602 : (Cond.code ({ cls := "PageSkeletonModel", name := "more", desc := "(II)I" } : MethodName) prog_12_method_6_code (2 : Nat) (Option.some FieldType.int)) ∈ wsG := wsG_a7 162 rfl rfl
set_option maxRecDepth 100000 in
theorem ks_yX10_depthOf : Cond.selects RX10 yX10_depthOf yX10_depthOf ∈ wsG := wsG_p 100 rfl rfl
theorem dX10_deepest_0 : decode cX10_deepest 0 = .ok (.iconst 0, 1) := by decide +kernel
theorem dX10_deepest_1 : decode cX10_deepest 1 = .ok (.istore_n 2, 1) := by decide +kernel
theorem dX10_deepest_2 : decode cX10_deepest 2 = .ok (.iconst 0, 1) := by decide +kernel
theorem dX10_deepest_3 : decode cX10_deepest 3 = .ok (.istore_n 3, 1) := by decide +kernel
theorem dX10_deepest_4 : decode cX10_deepest 4 = .ok (.iload_n 3, 1) := by decide +kernel
theorem dX10_deepest_5 : decode cX10_deepest 5 = .ok (.aload_n 0, 1) := by decide +kernel
theorem dX10_deepest_6 : decode cX10_deepest 6 = .ok (.getfield 54, 3) := by decide +kernel
theorem dX10_deepest_9 : decode cX10_deepest 9 = .ok (.iload_n 1, 1) := by decide +kernel
theorem dX10_deepest_10 : decode cX10_deepest 10 = .ok (.iaload, 1) := by decide +kernel
theorem dX10_deepest_11 : decode cX10_deepest 11 = .ok (.if_icmp .ge 35, 3) := by decide +kernel
theorem dX10_deepest_14 : decode cX10_deepest 14 = .ok (.aload_n 0, 1) := by decide +kernel
theorem dX10_deepest_15 : decode cX10_deepest 15 = .ok (.getfield 45, 3) := by decide +kernel
theorem dX10_deepest_18 : decode cX10_deepest 18 = .ok (.iload_n 1, 1) := by decide +kernel
theorem dX10_deepest_19 : decode cX10_deepest 19 = .ok (.aaload, 1) := by decide +kernel
theorem dX10_deepest_20 : decode cX10_deepest 20 = .ok (.iload_n 3, 1) := by decide +kernel
theorem dX10_deepest_21 : decode cX10_deepest 21 = .ok (.iaload, 1) := by decide +kernel
theorem dX10_deepest_22 : decode cX10_deepest 22 = .ok (.iconst 4, 1) := by decide +kernel
theorem dX10_deepest_23 : decode cX10_deepest 23 = .ok (.if_icmp .ne 17, 3) := by decide +kernel
theorem dX10_deepest_26 : decode cX10_deepest 26 = .ok (.iload_n 2, 1) := by decide +kernel
theorem dX10_deepest_27 : decode cX10_deepest 27 = .ok (.iconst 1, 1) := by decide +kernel
theorem dX10_deepest_28 : decode cX10_deepest 28 = .ok (.aload_n 0, 1) := by decide +kernel
theorem dX10_deepest_29 : decode cX10_deepest 29 = .ok (.iload_n 1, 1) := by decide +kernel
theorem dX10_deepest_30 : decode cX10_deepest 30 = .ok (.iload_n 3, 1) := by decide +kernel
theorem dX10_deepest_31 : decode cX10_deepest 31 = .ok (.iconst 4, 1) := by decide +kernel
theorem dX10_deepest_32 : decode cX10_deepest 32 = .ok (.invokevirtual 340, 3) := by decide +kernel
theorem dX10_deepest_35 : decode cX10_deepest 35 = .ok (.iadd, 1) := by decide +kernel
theorem dX10_deepest_36 : decode cX10_deepest 36 = .ok (.invokestatic 343, 3) := by decide +kernel
theorem dX10_deepest_39 : decode cX10_deepest 39 = .ok (.istore_n 2, 1) := by decide +kernel
theorem dX10_deepest_40 : decode cX10_deepest 40 = .ok (.iinc 3 1, 3) := by decide +kernel
theorem dX10_deepest_43 : decode cX10_deepest 43 = .ok (.goto (-39), 3) := by decide +kernel
theorem dX10_deepest_46 : decode cX10_deepest 46 = .ok (.iload_n 2, 1) := by decide +kernel
theorem dX10_deepest_47 : decode cX10_deepest 47 = .ok (.ireturn, 1) := by decide +kernel
theorem dX10_depthOf_0 : decode cX10_depthOf 0 = .ok (.iconst 0, 1) := by decide +kernel
theorem dX10_depthOf_1 : decode cX10_depthOf 1 = .ok (.istore 4, 2) := by decide +kernel
theorem dX10_depthOf_3 : decode cX10_depthOf 3 = .ok (.iconst 0, 1) := by decide +kernel
theorem dX10_depthOf_4 : decode cX10_depthOf 4 = .ok (.istore 5, 2) := by decide +kernel
theorem dX10_depthOf_6 : decode cX10_depthOf 6 = .ok (.iload 5, 2) := by decide +kernel
theorem dX10_depthOf_8 : decode cX10_depthOf 8 = .ok (.iload_n 2, 1) := by decide +kernel
theorem dX10_depthOf_9 : decode cX10_depthOf 9 = .ok (.if_icmp .ge 53, 3) := by decide +kernel
theorem dX10_depthOf_12 : decode cX10_depthOf 12 = .ok (.iload 4, 2) := by decide +kernel
theorem dX10_depthOf_14 : decode cX10_depthOf 14 = .ok (.iload_n 2, 1) := by decide +kernel
theorem dX10_depthOf_15 : decode cX10_depthOf 15 = .ok (.iload 5, 2) := by decide +kernel
theorem dX10_depthOf_17 : decode cX10_depthOf 17 = .ok (.aload_n 0, 1) := by decide +kernel
theorem dX10_depthOf_18 : decode cX10_depthOf 18 = .ok (.getfield 51, 3) := by decide +kernel
theorem dX10_depthOf_21 : decode cX10_depthOf 21 = .ok (.iload_n 1, 1) := by decide +kernel
theorem dX10_depthOf_22 : decode cX10_depthOf 22 = .ok (.aaload, 1) := by decide +kernel
theorem dX10_depthOf_23 : decode cX10_depthOf 23 = .ok (.iload 5, 2) := by decide +kernel
theorem dX10_depthOf_25 : decode cX10_depthOf 25 = .ok (.iaload, 1) := by decide +kernel
theorem dX10_depthOf_26 : decode cX10_depthOf 26 = .ok (.iadd, 1) := by decide +kernel
theorem dX10_depthOf_27 : decode cX10_depthOf 27 = .ok (.if_icmp .ge 25, 3) := by decide +kernel
theorem dX10_depthOf_30 : decode cX10_depthOf 30 = .ok (.iload_n 3, 1) := by decide +kernel
theorem dX10_depthOf_31 : decode cX10_depthOf 31 = .ok (.iconst (-1), 1) := by decide +kernel
theorem dX10_depthOf_32 : decode cX10_depthOf 32 = .ok (.if_icmp .eq 16, 3) := by decide +kernel
theorem dX10_depthOf_35 : decode cX10_depthOf 35 = .ok (.aload_n 0, 1) := by decide +kernel
theorem dX10_depthOf_36 : decode cX10_depthOf 36 = .ok (.getfield 45, 3) := by decide +kernel
theorem dX10_depthOf_39 : decode cX10_depthOf 39 = .ok (.iload_n 1, 1) := by decide +kernel
theorem dX10_depthOf_40 : decode cX10_depthOf 40 = .ok (.aaload, 1) := by decide +kernel
theorem dX10_depthOf_41 : decode cX10_depthOf 41 = .ok (.iload 5, 2) := by decide +kernel
theorem dX10_depthOf_43 : decode cX10_depthOf 43 = .ok (.iaload, 1) := by decide +kernel
theorem dX10_depthOf_44 : decode cX10_depthOf 44 = .ok (.iload_n 3, 1) := by decide +kernel
theorem dX10_depthOf_45 : decode cX10_depthOf 45 = .ok (.if_icmp .ne 7, 3) := by decide +kernel
theorem dX10_depthOf_48 : decode cX10_depthOf 48 = .ok (.iconst 1, 1) := by decide +kernel
theorem dX10_depthOf_49 : decode cX10_depthOf 49 = .ok (.goto 4, 3) := by decide +kernel
theorem dX10_depthOf_52 : decode cX10_depthOf 52 = .ok (.iconst 0, 1) := by decide +kernel
theorem dX10_depthOf_53 : decode cX10_depthOf 53 = .ok (.iadd, 1) := by decide +kernel
theorem dX10_depthOf_54 : decode cX10_depthOf 54 = .ok (.istore 4, 2) := by decide +kernel
theorem dX10_depthOf_56 : decode cX10_depthOf 56 = .ok (.iinc 5 1, 3) := by decide +kernel
theorem dX10_depthOf_59 : decode cX10_depthOf 59 = .ok (.goto (-53), 3) := by decide +kernel
theorem dX10_depthOf_62 : decode cX10_depthOf 62 = .ok (.iload 4, 2) := by decide +kernel
theorem dX10_depthOf_64 : decode cX10_depthOf 64 = .ok (.ireturn, 1) := by decide +kernel
theorem dX10_letter_0 : decode cX10_letter 0 = .ok (.iload_n 2, 1) := by decide +kernel
theorem dX10_letter_1 : decode cX10_letter 1 = .ok (.aload_n 0, 1) := by decide +kernel
theorem dX10_letter_2 : decode cX10_letter 2 = .ok (.getfield 26, 3) := by decide +kernel
theorem dX10_letter_5 : decode cX10_letter 5 = .ok (.iload_n 1, 1) := by decide +kernel
theorem dX10_letter_6 : decode cX10_letter 6 = .ok (.iaload, 1) := by decide +kernel
theorem dX10_letter_7 : decode cX10_letter 7 = .ok (.if_icmp .lt 5, 3) := by decide +kernel
theorem dX10_letter_10 : decode cX10_letter 10 = .ok (.iconst (-1), 1) := by decide +kernel
theorem dX10_letter_11 : decode cX10_letter 11 = .ok (.ireturn, 1) := by decide +kernel
theorem dX10_letter_12 : decode cX10_letter 12 = .ok (.aload_n 0, 1) := by decide +kernel
theorem dX10_letter_13 : decode cX10_letter 13 = .ok (.getfield 23, 3) := by decide +kernel
theorem dX10_letter_16 : decode cX10_letter 16 = .ok (.iload_n 1, 1) := by decide +kernel
theorem dX10_letter_17 : decode cX10_letter 17 = .ok (.iaload, 1) := by decide +kernel
theorem dX10_letter_18 : decode cX10_letter 18 = .ok (.istore_n 3, 1) := by decide +kernel
theorem dX10_letter_19 : decode cX10_letter 19 = .ok (.aload_n 0, 1) := by decide +kernel
theorem dX10_letter_20 : decode cX10_letter 20 = .ok (.getfield 26, 3) := by decide +kernel
theorem dX10_letter_23 : decode cX10_letter 23 = .ok (.iload_n 1, 1) := by decide +kernel
theorem dX10_letter_24 : decode cX10_letter 24 = .ok (.iaload, 1) := by decide +kernel
theorem dX10_letter_25 : decode cX10_letter 25 = .ok (.iconst 1, 1) := by decide +kernel
theorem dX10_letter_26 : decode cX10_letter 26 = .ok (.isub, 1) := by decide +kernel
theorem dX10_letter_27 : decode cX10_letter 27 = .ok (.istore 4, 2) := by decide +kernel
theorem dX10_letter_29 : decode cX10_letter 29 = .ok (.iload 4, 2) := by decide +kernel
theorem dX10_letter_31 : decode cX10_letter 31 = .ok (.iload_n 2, 1) := by decide +kernel
theorem dX10_letter_32 : decode cX10_letter 32 = .ok (.if_icmp .le 14, 3) := by decide +kernel
theorem dX10_letter_35 : decode cX10_letter 35 = .ok (.iload_n 3, 1) := by decide +kernel
theorem dX10_letter_36 : decode cX10_letter 36 = .ok (.bipush 27, 2) := by decide +kernel
theorem dX10_letter_38 : decode cX10_letter 38 = .ok (.idiv, 1) := by decide +kernel
theorem dX10_letter_39 : decode cX10_letter 39 = .ok (.istore_n 3, 1) := by decide +kernel
theorem dX10_letter_40 : decode cX10_letter 40 = .ok (.iinc 4 (-1), 3) := by decide +kernel
theorem dX10_letter_43 : decode cX10_letter 43 = .ok (.goto (-14), 3) := by decide +kernel
theorem dX10_letter_46 : decode cX10_letter 46 = .ok (.iload_n 3, 1) := by decide +kernel
theorem dX10_letter_47 : decode cX10_letter 47 = .ok (.bipush 27, 2) := by decide +kernel
theorem dX10_letter_49 : decode cX10_letter 49 = .ok (.irem, 1) := by decide +kernel
theorem dX10_letter_50 : decode cX10_letter 50 = .ok (.iconst 1, 1) := by decide +kernel
theorem dX10_letter_51 : decode cX10_letter 51 = .ok (.isub, 1) := by decide +kernel
theorem dX10_letter_52 : decode cX10_letter 52 = .ok (.ireturn, 1) := by decide +kernel
theorem dX10_ofSort_0 : decode cX10_ofSort 0 = .ok (.iconst 0, 1) := by decide +kernel
theorem dX10_ofSort_1 : decode cX10_ofSort 1 = .ok (.istore_n 3, 1) := by decide +kernel
theorem dX10_ofSort_2 : decode cX10_ofSort 2 = .ok (.iconst 0, 1) := by decide +kernel
theorem dX10_ofSort_3 : decode cX10_ofSort 3 = .ok (.istore 4, 2) := by decide +kernel
theorem dX10_ofSort_5 : decode cX10_ofSort 5 = .ok (.iload 4, 2) := by decide +kernel
theorem dX10_ofSort_7 : decode cX10_ofSort 7 = .ok (.aload_n 0, 1) := by decide +kernel
theorem dX10_ofSort_8 : decode cX10_ofSort 8 = .ok (.getfield 54, 3) := by decide +kernel
theorem dX10_ofSort_11 : decode cX10_ofSort 11 = .ok (.iload_n 1, 1) := by decide +kernel
theorem dX10_ofSort_12 : decode cX10_ofSort 12 = .ok (.iaload, 1) := by decide +kernel
theorem dX10_ofSort_13 : decode cX10_ofSort 13 = .ok (.if_icmp .ge 30, 3) := by decide +kernel
theorem dX10_ofSort_16 : decode cX10_ofSort 16 = .ok (.iload_n 3, 1) := by decide +kernel
theorem dX10_ofSort_17 : decode cX10_ofSort 17 = .ok (.aload_n 0, 1) := by decide +kernel
theorem dX10_ofSort_18 : decode cX10_ofSort 18 = .ok (.getfield 45, 3) := by decide +kernel
theorem dX10_ofSort_21 : decode cX10_ofSort 21 = .ok (.iload_n 1, 1) := by decide +kernel
theorem dX10_ofSort_22 : decode cX10_ofSort 22 = .ok (.aaload, 1) := by decide +kernel
theorem dX10_ofSort_23 : decode cX10_ofSort 23 = .ok (.iload 4, 2) := by decide +kernel
theorem dX10_ofSort_25 : decode cX10_ofSort 25 = .ok (.iaload, 1) := by decide +kernel
theorem dX10_ofSort_26 : decode cX10_ofSort 26 = .ok (.iload_n 2, 1) := by decide +kernel
theorem dX10_ofSort_27 : decode cX10_ofSort 27 = .ok (.if_icmp .ne 7, 3) := by decide +kernel
theorem dX10_ofSort_30 : decode cX10_ofSort 30 = .ok (.iconst 1, 1) := by decide +kernel
theorem dX10_ofSort_31 : decode cX10_ofSort 31 = .ok (.goto 4, 3) := by decide +kernel
theorem dX10_ofSort_34 : decode cX10_ofSort 34 = .ok (.iconst 0, 1) := by decide +kernel
theorem dX10_ofSort_35 : decode cX10_ofSort 35 = .ok (.iadd, 1) := by decide +kernel
theorem dX10_ofSort_36 : decode cX10_ofSort 36 = .ok (.istore_n 3, 1) := by decide +kernel
theorem dX10_ofSort_37 : decode cX10_ofSort 37 = .ok (.iinc 4 1, 3) := by decide +kernel
theorem dX10_ofSort_40 : decode cX10_ofSort 40 = .ok (.goto (-35), 3) := by decide +kernel
theorem dX10_ofSort_43 : decode cX10_ofSort 43 = .ok (.iload_n 3, 1) := by decide +kernel
theorem dX10_ofSort_44 : decode cX10_ofSort 44 = .ok (.ireturn, 1) := by decide +kernel
theorem dX10_parentOf_0 : decode cX10_parentOf 0 = .ok (.iconst (-1), 1) := by decide +kernel
theorem dX10_parentOf_1 : decode cX10_parentOf 1 = .ok (.istore_n 3, 1) := by decide +kernel
theorem dX10_parentOf_2 : decode cX10_parentOf 2 = .ok (.iconst 0, 1) := by decide +kernel
theorem dX10_parentOf_3 : decode cX10_parentOf 3 = .ok (.istore 4, 2) := by decide +kernel
theorem dX10_parentOf_5 : decode cX10_parentOf 5 = .ok (.iload 4, 2) := by decide +kernel
theorem dX10_parentOf_7 : decode cX10_parentOf 7 = .ok (.iload_n 2, 1) := by decide +kernel
theorem dX10_parentOf_8 : decode cX10_parentOf 8 = .ok (.if_icmp .ge 28, 3) := by decide +kernel
theorem dX10_parentOf_11 : decode cX10_parentOf 11 = .ok (.iload_n 2, 1) := by decide +kernel
theorem dX10_parentOf_12 : decode cX10_parentOf 12 = .ok (.iload 4, 2) := by decide +kernel
theorem dX10_parentOf_14 : decode cX10_parentOf 14 = .ok (.aload_n 0, 1) := by decide +kernel
theorem dX10_parentOf_15 : decode cX10_parentOf 15 = .ok (.getfield 51, 3) := by decide +kernel
theorem dX10_parentOf_18 : decode cX10_parentOf 18 = .ok (.iload_n 1, 1) := by decide +kernel
theorem dX10_parentOf_19 : decode cX10_parentOf 19 = .ok (.aaload, 1) := by decide +kernel
theorem dX10_parentOf_20 : decode cX10_parentOf 20 = .ok (.iload 4, 2) := by decide +kernel
theorem dX10_parentOf_22 : decode cX10_parentOf 22 = .ok (.iaload, 1) := by decide +kernel
theorem dX10_parentOf_23 : decode cX10_parentOf 23 = .ok (.iadd, 1) := by decide +kernel
theorem dX10_parentOf_24 : decode cX10_parentOf 24 = .ok (.if_icmp .ge 6, 3) := by decide +kernel
theorem dX10_parentOf_27 : decode cX10_parentOf 27 = .ok (.iload 4, 2) := by decide +kernel
theorem dX10_parentOf_29 : decode cX10_parentOf 29 = .ok (.istore_n 3, 1) := by decide +kernel
theorem dX10_parentOf_30 : decode cX10_parentOf 30 = .ok (.iinc 4 1, 3) := by decide +kernel
theorem dX10_parentOf_33 : decode cX10_parentOf 33 = .ok (.goto (-28), 3) := by decide +kernel
theorem dX10_parentOf_36 : decode cX10_parentOf 36 = .ok (.iload_n 3, 1) := by decide +kernel
theorem dX10_parentOf_37 : decode cX10_parentOf 37 = .ok (.ireturn, 1) := by decide +kernel
/-! a row's cells, told of each; the answers that are read off a tree -/
def cok (μ : va_M) (t n x : Nat) : Prop := (0 ≤ μ (507 + t) x ∧ μ (507 + t) x ≤ 4) ∧ (-1 ≤ μ (578 + t) x ∧ μ (578 + t) x < 200) ∧ 1 ≤ μ (649 + t) x ∧ (x : Int) + μ (649 + t) x ≤ n
theorem RA_cok {μ : va_M} {t : Nat} : ∀ (w : Rw) (p n : Nat), RA μ t w p → rWF w → p + rN w ≤ n → ∀ x : Nat, p ≤ x → x < p + rN w → cok μ t n x
  | .leaf, p, n, _, _, _, x, h1, h2 => by
    have e : rN (Std.DTreeMap.Internal.Impl.leaf : Rw) = 0 := rfl
    omega
  | .inner z k v l r, p, n, ⟨a1, a2, a3, a4, a5⟩, ⟨f1, f2, f3, f4, f5, f6, f7, f8⟩, hn, x, h1, h2 => by
    rw [rN_in] at hn h2
    by_cases h3 : x = p
    · subst h3
      exact ⟨⟨by omega, by omega⟩, ⟨by omega, by omega⟩, by omega, by omega⟩
    · by_cases h4 : x < p + 1 + rN l
      · exact RA_cok l (p + 1) n a4 f7 (by omega) x (by omega) h4
      · exact RA_cok r (p + 1 + rN l) n a5 f8 (by omega) x (by omega) (by omega)
/-- all cells of a tree are such -/
def tok (μ : va_M) (t : Nat) : Prop := 0 ≤ μ 719 t ∧ μ 719 t ≤ 900 ∧ ∀ x : Nat, (x : Int) < μ 719 t → cok μ t (μ 719 t).toNat x
theorem TR_tok {μ : va_M} {t : Nat} {w : Rw} (h : TR μ t w) (hw : rWF w) (hN : rN w ≤ 900) : tok μ t := by
  have h1 := h.1
  refine ⟨by omega, by omega, fun x hx => ?_⟩
  have e : (μ 719 t).toNat = rN w := by omega
  rw [e]
  exact RA_cok w 0 (rN w) h.2 hw (by (first | ((try clear h1); (try clear hN); omega) | omega)) x (by (first | ((try clear h1); (try clear hN); omega) | omega)) (by (first | ((try clear hN); omega) | omega))
set_option maxHeartbeats 4000000 in
set_option maxRecDepth 100000 in
theorem LX10_sizeOf_6b {p : Program} {l : Launch} {e : Env} {R : Room} {s : State} {m : MethodId} {args : Array Value} {below : List Frame} {meth : Method} {c : Code} {cells slots : Nat} {Q : State → Prop} {dC : Nat → ClassId} {dI : Nat → Nat → Nat} {h0 : Nat} {cI cZ cII cIII : ClassId} (hx : p.tables.exec = Jvm.exec) (hb : c.code = cX10_sizeOf) (hml : c.maxLocals = 6) (hown : s.vm.findClass RX10 = some m.cls) (hts : ∀ w ∈ wsG, w.before args s = true) (hK : va_K (dC, dI) vwCl (mT cI cZ cII cIII) s) (hRf : 1 ≤ R.frames) (hRl : 14 ≤ R.locals) (hRc : cells ≤ R.cells) (hRs : slots ≤ R.slots) (μ0 : va_M) (t : Int) (a : Int) (b : Int) (ht : 0 ≤ t ∧ t < 70) (ha : 0 ≤ a ∧ b ≤ 900) (hr9 : ∀ x : Nat, a ≤ x → (x : Int) < b → inR (μ0 (507 + t.toNat) x)) (hexit41 : ∀ (n : Int) (k : Int) (μ : va_M) (H : Heap) (locs : List Loc) (ls : Array Slot), (μ = μ0) → (n = cS μ0 t.toNat a.toNat (b - a).toNat) → va_P (dC, dI) vwCl (fw (mE cI cZ cII cIII h0) h0 6325 μ) H → va_S (fA h0 6325 s.heap.size) s.heap H locs → lv_has ls 6 [(4, .int (iZ (n)))] → W p l e R s m args below meth c H locs cells slots Q (F0 m 41 ls [])) :
    ∀ (n9 : Nat) (n : Int) (k : Int) (μ : va_M) (H : Heap) (locs : List Loc) (ls : Array Slot), (μ = μ0) → (a ≤ k ∧ k ≤ b) → (n = cS μ0 t.toNat a.toNat (k - a).toNat) → (b - k).toNat < n9 → va_P (dC, dI) vwCl (fw (mE cI cZ cII cIII h0) h0 6325 μ) H → va_S (fA h0 6325 s.heap.size) s.heap H locs → lv_has ls 6 [(5, .int (iZ (k))), (4, .int (iZ (n))), (0, .ref h0), (1, .int (iZ (t))), (3, .int (iZ (b)))] → W p l e R s m args below meth c H locs cells slots Q (F0 m 6 ls []) := by
  intro n9
  induction n9 with
  | zero => intro n k μ H locs ls hm hk hn hm9 hP hS hl; exact absurd hm9 (Nat.not_lt_zero _)
  | succ n9 ih =>
    intro n k μ H locs ls hm hk hn hm9 hP hS hl
    subst hm
    have hc9 := cS_rng (μ := μ) (t := t.toNat) (p := a.toNat) (k - a).toNat
    refine lv_iload hx hb dX10_sizeOf_6 (lv_at hl 0 rfl) ?_
    refine lv_iload_n hx hb dX10_sizeOf_8 rfl (lv_at hl 4 rfl) ?_
    refine fz_icmp_ge (tgt := 41) (by constructor <;> (first | ((try clear hc9); (try clear hm9); (try clear hn); (try clear hm); (try clear hexit41); (try clear ht); (try clear hRs); (try clear hRc); (try clear hRl); (try clear hRf); omega) | omega)) (by constructor <;> (first | ((try clear hc9); (try clear hm9); (try clear hn); (try clear hm); (try clear hexit41); (try clear ht); (try clear hRs); (try clear hRc); (try clear hRl); (try clear hRf); omega) | omega)) hx hb dX10_sizeOf_9 (by decide) (fun c9_ => ?_) (fun c9_ => ?_)
    · exact hexit41 (n) (k) μ H locs ls (by rfl) (by
                    obtain rfl : k = b := by (first | ((try clear hc9); (try clear hm9); (try clear hn); (try clear hm); (try clear hexit41); (try clear ha); (try clear ht); (try clear hRs); (try clear hRc); (try clear hRl); (try clear hRf); omega) | omega)
                    exact hn) hP hS (lv_sub hl [1] rfl)
    · have hx9 := hr9 k.toNat (by (first | ((try clear hx9); (try clear c9_); (try clear hc9); (try clear hm9); (try clear hn); (try clear hm); (try clear hexit41); (try clear ha); (try clear ht); (try clear hRs); (try clear hRc); (try clear hRl); (try clear hRf); omega) | omega)) (by (first | ((try clear hx9); (try clear hc9); (try clear hm9); (try clear hn); (try clear hm); (try clear hexit41); (try clear ht); (try clear hRs); (try clear hRc); (try clear hRl); (try clear hRf); omega) | omega))
      refine lv_iload hx hb dX10_sizeOf_12 (lv_at hl 1 rfl) ?_
      refine lv_aload_n hx hb dX10_sizeOf_14 rfl (lv_at hl 2 rfl) ?_
      refine fz_get (D := (dC, dI)) (ci := 10) (v := .ref (h0 + 506)) (C := RX10) (T := TX10) (N := 53) hx hb hts inG10 hown hK hP (k := 0) (by decide) (F := mF h0) mE_obj rfl 18 (by decide) (hts _ k1184) (fun _ h9 => h9) rfl dX10_sizeOf_15 ?_
      refine lv_iload_n hx hb dX10_sizeOf_18 rfl (lv_at hl 3 rfl) ?_
      refine fz_ald (k := 506) (n := 70) (k2 := (507 + (t).toNat)) hx hb hK hP 2 rfl (by decide) mE_sort rfl ⟨by (first | ((try clear hx9); (try clear c9_); (try clear hc9); (try clear hm9); (try clear hn); (try clear hk); (try clear hm); (try clear hexit41); (try clear ha); (try clear hRs); (try clear hRc); (try clear hRl); (try clear hRf); omega) | omega), by (first | ((try clear hx9); (try clear c9_); (try clear hc9); (try clear hm9); (try clear hn); (try clear hk); (try clear hm); (try clear hexit41); (try clear ha); (try clear hRs); (try clear hRc); (try clear hRl); (try clear hRf); omega) | omega)⟩ (by decide) (if_pos (by (first | ((try clear hx9); (try clear c9_); (try clear hc9); (try clear hm9); (try clear hn); (try clear hk); (try clear hm); (try clear hexit41); (try clear ha); (try clear hRs); (try clear hRc); (try clear hRl); (try clear hRf); omega) | omega))) dX10_sizeOf_19 ?_
      refine lv_iload hx hb dX10_sizeOf_20 (lv_at hl 0 rfl) ?_
      refine fz_ld (k := (507 + (t).toNat)) (n := 900) hx hb hK hP 0 (by (first | ((try clear hx9); (try clear c9_); (try clear hc9); (try clear hm9); (try clear hn); (try clear hk); (try clear hm); (try clear hexit41); (try clear ha); (try clear hRs); (try clear hRc); (try clear hRl); (try clear hRf); omega) | omega)) (mE_sortR (by (first | ((try clear hx9); (try clear c9_); (try clear hc9); (try clear hm9); (try clear hn); (try clear hk); (try clear hm); (try clear hexit41); (try clear ha); (try clear hRs); (try clear hRc); (try clear hRl); (try clear hRf); omega) | omega))) rfl ⟨by (first | ((try clear hx9); (try clear c9_); (try clear hc9); (try clear hm9); (try clear hn); (try clear hm); (try clear hexit41); (try clear ht); (try clear hRs); (try clear hRc); (try clear hRl); (try clear hRf); omega) | omega), by (first | ((try clear hx9); (try clear hc9); (try clear hm9); (try clear hn); (try clear hk); (try clear hm); (try clear hexit41); (try clear ht); (try clear hRs); (try clear hRc); (try clear hRl); (try clear hRf); omega) | omega)⟩ (by decide) dX10_sizeOf_22 ?_
      refine lv_iconst (v := iZ 3) hx hb dX10_sizeOf_23 rfl ?_
      refine fz_icmp_ge (tgt := 31) (by constructor <;> (first | ((try clear c9_); (try clear hc9); (try clear hm9); (try clear hn); (try clear hk); (try clear hm); (try clear hexit41); (try clear ha); (try clear ht); (try clear hRs); (try clear hRc); (try clear hRl); (try clear hRf); omega) | omega)) (by decide) hx hb dX10_sizeOf_24 (by decide) (fun c24_ => ?_) (fun c24_ => ?_)
      · refine lv_iconst (v := iZ 0) hx hb dX10_sizeOf_31 rfl ?_
        refine lv_iadd hx hb dX10_sizeOf_32 ?_
        refine lv_topi (fun x9 ex9 => ?_)
        obtain rfl : x9 = iZ (n + 0) := ex9.trans (iZ_add _ _)
        refine lv_istore (lv' := [(4, .int (iZ (n + 0))), (5, .int (iZ (k))), (0, .ref h0), (1, .int (iZ (t))), (3, .int (iZ (b)))]) hx hb dX10_sizeOf_33 hl (by decide) rfl (fun ls hl => ?_)
        refine lv_iinc (v := iZ (k + 1)) (lv' := [(5, .int (iZ (k + 1))), (4, .int (iZ (n + 0))), (0, .ref h0), (1, .int (iZ (t))), (3, .int (iZ (b)))]) hx hb dX10_sizeOf_35 hl (k := 1) rfl (iZ_add _ _) (by decide) rfl (fun ls hl => ?_)
        refine lv_goto (tgt := 6) hx hb dX10_sizeOf_38 (by decide) ?_
        exact ih (n + 0) (k + 1) μ H locs ls (by rfl) (by (first | ((try clear ex9); (try clear c24_); (try clear hx9); (try clear hc9); (try clear hm9); (try clear hn); (try clear hm); (try clear hexit41); (try clear ha); (try clear ht); (try clear hRs); (try clear hRc); (try clear hRl); (try clear hRf); omega) | omega)) (by
                        rw [show (k + 1 - a).toNat = (k - a).toNat + 1 by (first | ((try clear ex9); (try clear c24_); (try clear hx9); (try clear c9_); (try clear hc9); (try clear hm9); (try clear hn); (try clear hm); (try clear hexit41); (try clear ha); (try clear ht); (try clear hRs); (try clear hRc); (try clear hRl); (try clear hRf); omega) | omega), cS, show a.toNat + (k - a).toNat = k.toNat by (first | ((try clear ex9); (try clear c24_); (try clear hx9); (try clear c9_); (try clear hm9); (try clear hn); (try clear hm); (try clear hexit41); (try clear ht); (try clear hRs); (try clear hRc); (try clear hRl); (try clear hRf); omega) | omega), ← hn]
                        first | rw [if_pos (by omega)] | rw [if_neg (by (first | ((try clear ex9); (try clear c9_); (try clear hc9); (try clear hm9); (try clear hn); (try clear hk); (try clear hm); (try clear hexit41); (try clear ha); (try clear ht); (try clear hRs); (try clear hRc); (try clear hRl); (try clear hRf); omega) | omega))]) (by (first | ((try clear ex9); (try clear c24_); (try clear hx9); (try clear hc9); (try clear hn); (try clear hk); (try clear hm); (try clear hexit41); (try clear ha); (try clear ht); (try clear hRs); (try clear hRc); (try clear hRl); (try clear hRf); omega) | omega)) hP hS (lv_sub hl [0, 1, 2, 3, 4] rfl)
      · refine lv_iconst (v := iZ 1) hx hb dX10_sizeOf_27 rfl ?_
        refine lv_goto (tgt := 32) hx hb dX10_sizeOf_28 (by decide) ?_
        refine lv_iadd hx hb dX10_sizeOf_32 ?_
        refine lv_topi (fun x9 ex9 => ?_)
        obtain rfl : x9 = iZ (n + 1) := ex9.trans (iZ_add _ _)
        refine lv_istore (lv' := [(4, .int (iZ (n + 1))), (5, .int (iZ (k))), (0, .ref h0), (1, .int (iZ (t))), (3, .int (iZ (b)))]) hx hb dX10_sizeOf_33 hl (by decide) rfl (fun ls hl => ?_)
        refine lv_iinc (v := iZ (k + 1)) (lv' := [(5, .int (iZ (k + 1))), (4, .int (iZ (n + 1))), (0, .ref h0), (1, .int (iZ (t))), (3, .int (iZ (b)))]) hx hb dX10_sizeOf_35 hl (k := 1) rfl (iZ_add _ _) (by decide) rfl (fun ls hl => ?_)
        refine lv_goto (tgt := 6) hx hb dX10_sizeOf_38 (by decide) ?_
        exact ih (n + 1) (k + 1) μ H locs ls (by rfl) (by (first | ((try clear ex9); (try clear c24_); (try clear hx9); (try clear hc9); (try clear hm9); (try clear hn); (try clear hm); (try clear hexit41); (try clear ha); (try clear ht); (try clear hRs); (try clear hRc); (try clear hRl); (try clear hRf); omega) | omega)) (by
                        rw [show (k + 1 - a).toNat = (k - a).toNat + 1 by (first | ((try clear ex9); (try clear c24_); (try clear hx9); (try clear c9_); (try clear hc9); (try clear hm9); (try clear hn); (try clear hm); (try clear hexit41); (try clear ha); (try clear ht); (try clear hRs); (try clear hRc); (try clear hRl); (try clear hRf); omega) | omega), cS, show a.toNat + (k - a).toNat = k.toNat by (first | ((try clear ex9); (try clear c24_); (try clear hx9); (try clear c9_); (try clear hm9); (try clear hn); (try clear hm); (try clear hexit41); (try clear ht); (try clear hRs); (try clear hRc); (try clear hRl); (try clear hRf); omega) | omega), ← hn]
                        first | rw [if_pos (by (first | ((try clear ex9); (try clear hx9); (try clear c9_); (try clear hc9); (try clear hm9); (try clear hn); (try clear hk); (try clear hm); (try clear hexit41); (try clear ha); (try clear ht); (try clear hRs); (try clear hRc); (try clear hRl); (try clear hRf); omega) | omega))] | rw [if_neg (by omega)]) (by (first | ((try clear ex9); (try clear c24_); (try clear hx9); (try clear hc9); (try clear hn); (try clear hk); (try clear hm); (try clear hexit41); (try clear ha); (try clear ht); (try clear hRs); (try clear hRc); (try clear hRl); (try clear hRf); omega) | omega)) hP hS (lv_sub hl [0, 1, 2, 3, 4] rfl)
set_option maxHeartbeats 4000000 in
set_option maxRecDepth 100000 in
theorem m_sizeOf2 (l : Launch) (dC : Nat → ClassId) (dI : Nat → Nat → Nat) (cI cZ cII cIII : ClassId) (h0 sz : Nat) (μ : va_M) (t : Int) (a : Int) (b : Int) (ht : 0 ≤ t ∧ t < 70) (ha : 0 ≤ a ∧ b ≤ 900) (hab : a ≤ b) (hr9 : ∀ x : Nat, a ≤ x → (x : Int) < b → inR (μ (507 + t.toNat) x)) : Met l yX10_sizeOf (Cond.code yX10_sizeOf cX10_sizeOf 6 (some .int) :: wsG) ({ frames := 1, cells := 0, slots := 0, locals := 14 } : Room) (va_Pc [.ref h0, .int (iZ (t)), .int (iZ (a)), .int (iZ (b))] (fun U => U.heap.size = sz ∧ va_P (dC, dI) vwCl (fw (mE cI cZ cII cIII h0) h0 6325 μ) U.heap ∧ va_K (dC, dI) vwCl (mT cI cZ cII cIII) U)) (va_Qi (fun (r9 : Int32) (u : va_M × Int) => r9 = iZ u.2 ∧ (fun (u : va_M) (r : Int) => u = μ ∧ r = cS μ t.toNat a.toNat (b - a).toNat) u.1 u.2) (fun u t => va_P (dC, dI) vwCl (fw (mE cI cZ cII cIII h0) h0 6325 u.1) t.heap ∧ va_K (dC, dI) vwCl (mT cI cZ cII cIII) t) (fA h0 6325 sz)) 0 0 (fA h0 6325 sz) := by
  refine Met.ofW (cc := cX10_sizeOf) (maxL := 6) (ret := (some .int)) (by decide) rfl ?_
  intro p e s m args below meth c s₁ B hml hv
  obtain ⟨rfl, hsz, hP, hK⟩ := hv
  have hx := B.exec
  have hb := B.bytes
  have hr := B.returns
  have hts : ∀ w ∈ wsG, w.before _ s = true := hG_of (atoms_spec (ws := (Cond.code yX10_sizeOf cX10_sizeOf 6 (some .int) :: wsG)) B.pre)
  have hown : s.vm.findClass RX10 = some m.cls := findClass_of_methodNamed B.named
  have hlocks := B.notSynchronized
  subst hsz
  have hS : va_S (fA h0 6325 s.heap.size) s.heap s.heap [] := va_S.rf
  have hl := lv_entry ([.ref h0, .int (iZ (t)), .int (iZ (a)), .int (iZ (b))]) (n := 6) (Nat.le_of_ble_eq_true rfl)
  rw [lg_entry_eq]
  generalize (lg_sl ([.ref h0, .int (iZ (t)), .int (iZ (a)), .int (iZ (b))]) ++ List.replicate (6 - (lg_sl ([.ref h0, .int (iZ (t)), .int (iZ (a)), .int (iZ (b))])).length) Slot.unset).toArray = ls at hl ⊢
  have hl : lv_has ls 6 [(0, .ref h0), (1, .int (iZ (t))), (2, .int (iZ (a))), (3, .int (iZ (b)))] := hl
  refine lv_iconst (v := iZ 0) hx hb dX10_sizeOf_0 rfl ?_
  refine lv_istore (lv' := [(4, .int (iZ (0))), (0, .ref h0), (1, .int (iZ (t))), (2, .int (iZ (a))), (3, .int (iZ (b)))]) hx hb dX10_sizeOf_1 hl (by decide) rfl (fun ls hl => ?_)
  refine lv_iload_n hx hb dX10_sizeOf_3 rfl (lv_at hl 3 rfl) ?_
  refine lv_istore (lv' := [(5, .int (iZ (a))), (4, .int (iZ (0))), (0, .ref h0), (1, .int (iZ (t))), (2, .int (iZ (a))), (3, .int (iZ (b)))]) hx hb dX10_sizeOf_4 hl (by decide) rfl (fun ls hl => ?_)
  refine LX10_sizeOf_6b hx hb hml hown hts hK (Nat.le_of_ble_eq_true rfl) (Nat.le_of_ble_eq_true rfl) (Nat.le_of_ble_eq_true rfl) (Nat.le_of_ble_eq_true rfl) (μ) (t) (a) (b) (by assumption) (by assumption) (by assumption) ?_ _ (0) (a) μ s.heap [] ls (by rfl) (by (first | ((try clear hsz); (try clear s₁); (try clear ha); (try clear ht); omega) | omega)) (by simp [cS]) (Nat.lt_succ_self _) hP hS (lv_sub hl [0, 1, 2, 3, 5] rfl)
  · intro n_1 k_1 μ1_ H locs ls q1_1 q2_1 hP hS hl
    have hl : lv_has ls 6 [(4, .int (iZ (n_1)))] := hl
    refine lv_iload hx hb dX10_sizeOf_41 (lv_at hl 0 rfl) ?_
    exact W.iret (v := iZ (n_1)) hx hb hr (fun t9 ht9 hW9 => ⟨⟨iZ (n_1), (μ1_, n_1), rfl, ⟨rfl, (by
                dsimp only
                exact ⟨q1_1, q2_1⟩)⟩, by rw [ht9]; exact hP, va_K.moved hW9.alike hK⟩, hS.F ht9⟩) hS.2.2 dX10_sizeOf_43
set_option maxHeartbeats 4000000 in
set_option maxRecDepth 100000 in
theorem m_sizeOfAll2 (l : Launch) (dC : Nat → ClassId) (dI : Nat → Nat → Nat) (cI cZ cII cIII : ClassId) (h0 sz : Nat) (μ : va_M) (t : Int) (ht : 0 ≤ t ∧ t < 70) (hT : tok μ t.toNat) : Met l yX10_sizeOfAll (Cond.code yX10_sizeOfAll cX10_sizeOfAll 2 (some .int) :: wsG) ({ frames := 2, cells := 0, slots := 0, locals := 39 } : Room) (va_Pc [.ref h0, .int (iZ (t))] (fun U => U.heap.size = sz ∧ va_P (dC, dI) vwCl (fw (mE cI cZ cII cIII h0) h0 6325 μ) U.heap ∧ va_K (dC, dI) vwCl (mT cI cZ cII cIII) U)) (va_Qi (fun (r9 : Int32) (u : va_M × Int) => r9 = iZ u.2 ∧ (fun (u : va_M) (r : Int) => u = μ ∧ r = cS μ t.toNat 0 (μ 719 t.toNat).toNat) u.1 u.2) (fun u t => va_P (dC, dI) vwCl (fw (mE cI cZ cII cIII h0) h0 6325 u.1) t.heap ∧ va_K (dC, dI) vwCl (mT cI cZ cII cIII) t) (fA h0 6325 sz)) 0 0 (fA h0 6325 sz) := by
  refine Met.ofW (cc := cX10_sizeOfAll) (maxL := 2) (ret := (some .int)) (by decide) rfl ?_
  intro p e s m args below meth c s₁ B hml hv
  obtain ⟨rfl, hsz, hP, hK⟩ := hv
  have hx := B.exec
  have hb := B.bytes
  have hr := B.returns
  have hts : ∀ w ∈ wsG, w.before _ s = true := hG_of (atoms_spec (ws := (Cond.code yX10_sizeOfAll cX10_sizeOfAll 2 (some .int) :: wsG)) B.pre)
  have hown : s.vm.findClass RX10 = some m.cls := findClass_of_methodNamed B.named
  have hlocks := B.notSynchronized
  subst hsz
  have hS : va_S (fA h0 6325 s.heap.size) s.heap s.heap [] := va_S.rf
  have hl := lv_entry ([.ref h0, .int (iZ (t))]) (n := 2) (Nat.le_of_ble_eq_true rfl)
  rw [lg_entry_eq]
  generalize (lg_sl ([.ref h0, .int (iZ (t))]) ++ List.replicate (2 - (lg_sl ([.ref h0, .int (iZ (t))])).length) Slot.unset).toArray = ls at hl ⊢
  have hl : lv_has ls 2 [(0, .ref h0), (1, .int (iZ (t)))] := hl
  have hT1 := hT.1
  have hT2 := hT.2.1
  refine lv_aload_n hx hb dX10_sizeOfAll_0 rfl (lv_at hl 0 rfl) ?_
  refine lv_iload_n hx hb dX10_sizeOfAll_1 rfl (lv_at hl 1 rfl) ?_
  refine lv_iconst (v := iZ 0) hx hb dX10_sizeOfAll_2 rfl ?_
  refine lv_aload_n hx hb dX10_sizeOfAll_3 rfl (lv_at hl 0 rfl) ?_
  refine fz_get (D := (dC, dI)) (ci := 10) (v := .ref (h0 + 719)) (C := RX10) (T := TX10) (N := 53) hx hb hts inG10 hown hK hP (k := 0) (by decide) (F := mF h0) mE_obj rfl 21 (by decide) (hts _ k1187) (fun _ h9 => h9) rfl dX10_sizeOfAll_4 ?_
  refine lv_iload_n hx hb dX10_sizeOfAll_7 rfl (lv_at hl 1 rfl) ?_
  refine fz_ld (k := 719) (n := 70) hx hb hK hP 0 (by decide) mE_nodes rfl ⟨by (first | ((try clear hT2); (try clear hT1); (try clear hsz); (try clear s₁); omega) | omega), by (first | ((try clear hT2); (try clear hT1); (try clear hsz); (try clear s₁); omega) | omega)⟩ (by decide) dX10_sizeOfAll_8 ?_
  refine va_calli (va_runV (As := [.int (iZ (t)), .int (iZ (0)), .int (iZ (μ 719 (t).toNat))]) (rest := []) ⟨hx, hb, hml, hown, hts⟩ (m_sizeOf2 l dC dI cI cZ cII cIII h0 s.heap.size μ (t) (0) (μ 719 (t).toNat) (by first | assumption | omega | exact ⟨by omega, by omega⟩) (by first | assumption | (first | ((try clear hsz); (try clear s₁); (try clear ht); omega) | omega) | exact ⟨by omega, by omega⟩) (by first | assumption | omega | exact ⟨by omega, by omega⟩) (by intro x _ hx; have h9 := (hT.2.2 x hx).1; constructor <;> (first | ((try clear hT2); (try clear hT1); (try clear hsz); (try clear s₁); (try clear ht); omega) | omega))) (cwV 3 hts (gV_G k1492 k1494 ks_yX10_sizeOf k13 k1495) rfl rfl rfl (by decide +kernel) ⟨Nat.le_of_ble_eq_true rfl, Nat.le_of_ble_eq_true rfl⟩) ⟨fun a U g mk q => by obtain ⟨q0, q1, qP, qK⟩ := q; exact ⟨q0, q1, qP, va_K.moved (u := U) (U := U.calling g mk a) (Vm.Alike.refl U.vm) qK⟩, va_recv hK hP (ci := 10) (q0 := 0) rfl ((fw_get (by decide)).trans (by rw [mE_obj]; rfl)), fun U hU hW => ⟨rfl, by rw [hU], by rw [hU]; exact hP, va_K.moved hW.alike hK⟩⟩ rfl rfl hl.1 rfl (lv_room (Nat.le_of_ble_eq_true rfl)) dX10_sizeOfAll_9 ⟨Nat.le_of_ble_eq_true rfl, Nat.le_of_ble_eq_true rfl⟩) hS (fun q _ h => fA_le hS.1 q h) (fA_le hS.1) (fun r9 u9 t9 H1 locs ht9 hvm9 hw9 hB9 hz9 hk9 hS => ?_)
  obtain ⟨μ1, r2⟩ := u9
  obtain ⟨hP, -⟩ := hB9
  rw [ht9] at hP
  generalize H1 = H at hP hS ⊢
  obtain ⟨e9, hw9⟩ := hw9
  have e9 : r9 = iZ r2 := e9
  subst e9
  simp only at hP hw9
  have hμ1 := hw9; clear hw9
  rw [hμ1.1] at hP; have hμ1 := hμ1.2
  exact W.iret (v := iZ (r2)) hx hb hr (fun t9 ht9 hW9 => ⟨⟨iZ (r2), (μ, r2), rfl, ⟨rfl, (by
            dsimp only
            rw [Int.sub_zero] at hμ1; exact ⟨rfl, hμ1⟩)⟩, by rw [ht9]; exact hP, va_K.moved hW9.alike hK⟩, hS.F ht9⟩) hS.2.2 dX10_sizeOfAll_12
set_option maxHeartbeats 4000000 in
set_option maxRecDepth 100000 in
theorem LX10_ofSort_5 {p : Program} {l : Launch} {e : Env} {R : Room} {s : State} {m : MethodId} {args : Array Value} {below : List Frame} {meth : Method} {c : Code} {cells slots : Nat} {Q : State → Prop} {dC : Nat → ClassId} {dI : Nat → Nat → Nat} {h0 : Nat} {cI cZ cII cIII : ClassId} (hx : p.tables.exec = Jvm.exec) (hb : c.code = cX10_ofSort) (hml : c.maxLocals = 5) (hown : s.vm.findClass RX10 = some m.cls) (hts : ∀ w ∈ wsG, w.before args s = true) (hK : va_K (dC, dI) vwCl (mT cI cZ cII cIII) s) (hRf : 1 ≤ R.frames) (hRl : 14 ≤ R.locals) (hRc : cells ≤ R.cells) (hRs : slots ≤ R.slots) (μ0 : va_M) (t : Int) (q : Int) (ht : 0 ≤ t ∧ t < 70) (hT : tok μ0 t.toNat) (hq : inR q) (hexit43 : ∀ (n : Int) (i : Int) (μ : va_M) (H : Heap) (locs : List Loc) (ls : Array Slot), (μ = μ0) → (0 ≤ n ∧ n ≤ 900) → va_P (dC, dI) vwCl (fw (mE cI cZ cII cIII h0) h0 6325 μ) H → va_S (fA h0 6325 s.heap.size) s.heap H locs → lv_has ls 5 [(3, .int (iZ (n)))] → W p l e R s m args below meth c H locs cells slots Q (F0 m 43 ls [])) :
    ∀ (n9 : Nat) (n : Int) (i : Int) (μ : va_M) (H : Heap) (locs : List Loc) (ls : Array Slot), (μ = μ0) → (0 ≤ i ∧ i ≤ μ0 719 t.toNat) → (0 ≤ n ∧ n ≤ i) → (1000 - i).toNat < n9 → va_P (dC, dI) vwCl (fw (mE cI cZ cII cIII h0) h0 6325 μ) H → va_S (fA h0 6325 s.heap.size) s.heap H locs → lv_has ls 5 [(4, .int (iZ (i))), (3, .int (iZ (n))), (2, .int (iZ (q))), (1, .int (iZ (t))), (0, .ref h0)] → W p l e R s m args below meth c H locs cells slots Q (F0 m 5 ls []) := by
  intro n9
  induction n9 with
  | zero => intro n i μ H locs ls hm hk hn hm9 hP hS hl; exact absurd hm9 (Nat.not_lt_zero _)
  | succ n9 ih =>
    intro n i μ H locs ls hm hk hn hm9 hP hS hl
    subst hm
    obtain ⟨hT1, hT2, hT3⟩ := hT
    refine lv_iload hx hb dX10_ofSort_5 (lv_at hl 0 rfl) ?_
    refine lv_aload_n hx hb dX10_ofSort_7 rfl (lv_at hl 4 rfl) ?_
    refine fz_get (D := (dC, dI)) (ci := 10) (v := .ref (h0 + 719)) (C := RX10) (T := TX10) (N := 53) hx hb hts inG10 hown hK hP (k := 0) (by decide) (F := mF h0) mE_obj rfl 21 (by decide) (hts _ k1187) (fun _ h9 => h9) rfl dX10_ofSort_8 ?_
    refine lv_iload_n hx hb dX10_ofSort_11 rfl (lv_at hl 3 rfl) ?_
    refine fz_ld (k := 719) (n := 70) hx hb hK hP 0 (by decide) mE_nodes rfl ⟨by (first | ((try clear hT3); (try clear hT2); (try clear hT1); (try clear hm9); (try clear hn); (try clear hk); (try clear hm); (try clear hexit43); (try clear hRs); (try clear hRc); (try clear hRl); (try clear hRf); omega) | omega), by (first | ((try clear hT3); (try clear hT2); (try clear hT1); (try clear hm9); (try clear hn); (try clear hk); (try clear hm); (try clear hexit43); (try clear hRs); (try clear hRc); (try clear hRl); (try clear hRf); omega) | omega)⟩ (by decide) dX10_ofSort_12 ?_
    refine fz_icmp_ge (tgt := 43) (by constructor <;> (first | ((try clear hT3); (try clear hm9); (try clear hn); (try clear hm); (try clear hexit43); (try clear ht); (try clear hRs); (try clear hRc); (try clear hRl); (try clear hRf); omega) | omega)) (by constructor <;> (first | ((try clear hT3); (try clear hm9); (try clear hn); (try clear hk); (try clear hm); (try clear hexit43); (try clear ht); (try clear hRs); (try clear hRc); (try clear hRl); (try clear hRf); omega) | omega)) hx hb dX10_ofSort_13 (by decide) (fun c13_ => ?_) (fun c13_ => ?_)
    · exact hexit43 (n) (i) μ H locs ls (by rfl) (by (first | ((try clear hT3); (try clear hm9); (try clear hm); (try clear hexit43); (try clear ht); (try clear hRs); (try clear hRc); (try clear hRl); (try clear hRf); omega) | omega)) hP hS (lv_sub hl [1] rfl)
    · have hx9 := hT3 i.toNat (by (first | ((try clear hx9); (try clear hT3); (try clear hm9); (try clear hn); (try clear hm); (try clear hexit43); (try clear ht); (try clear hRs); (try clear hRc); (try clear hRl); (try clear hRf); omega) | omega))
      obtain ⟨hx1, hx2, hx3, hx4⟩ := hx9
      refine lv_iload_n hx hb dX10_ofSort_16 rfl (lv_at hl 1 rfl) ?_
      refine lv_aload_n hx hb dX10_ofSort_17 rfl (lv_at hl 4 rfl) ?_
      refine fz_get (D := (dC, dI)) (ci := 10) (v := .ref (h0 + 506)) (C := RX10) (T := TX10) (N := 53) hx hb hts inG10 hown hK hP (k := 0) (by decide) (F := mF h0) mE_obj rfl 18 (by decide) (hts _ k1184) (fun _ h9 => h9) rfl dX10_ofSort_18 ?_
      refine lv_iload_n hx hb dX10_ofSort_21 rfl (lv_at hl 3 rfl) ?_
      refine fz_ald (k := 506) (n := 70) (k2 := (507 + (t).toNat)) hx hb hK hP 2 rfl (by decide) mE_sort rfl ⟨by (first | ((try clear hx4); (try clear hx3); (try clear hx2); (try clear hx1); (try clear hx9); (try clear c13_); (try clear hT3); (try clear hT2); (try clear hT1); (try clear hm9); (try clear hn); (try clear hk); (try clear hm); (try clear hexit43); (try clear hRs); (try clear hRc); (try clear hRl); (try clear hRf); omega) | omega), by (first | ((try clear hx4); (try clear hx3); (try clear hx2); (try clear hx1); (try clear hx9); (try clear c13_); (try clear hT3); (try clear hT2); (try clear hT1); (try clear hm9); (try clear hn); (try clear hk); (try clear hm); (try clear hexit43); (try clear hRs); (try clear hRc); (try clear hRl); (try clear hRf); omega) | omega)⟩ (by decide) (if_pos (by (first | ((try clear hx4); (try clear hx3); (try clear hx2); (try clear hx1); (try clear hx9); (try clear c13_); (try clear hT3); (try clear hT2); (try clear hT1); (try clear hm9); (try clear hn); (try clear hk); (try clear hm); (try clear hexit43); (try clear hRs); (try clear hRc); (try clear hRl); (try clear hRf); omega) | omega))) dX10_ofSort_22 ?_
      refine lv_iload hx hb dX10_ofSort_23 (lv_at hl 0 rfl) ?_
      refine fz_ld (k := (507 + (t).toNat)) (n := 900) hx hb hK hP 0 (by (first | ((try clear hx4); (try clear hx3); (try clear hx2); (try clear hx1); (try clear hx9); (try clear c13_); (try clear hT3); (try clear hT2); (try clear hT1); (try clear hm9); (try clear hn); (try clear hk); (try clear hm); (try clear hexit43); (try clear hRs); (try clear hRc); (try clear hRl); (try clear hRf); omega) | omega)) (mE_sortR (by (first | ((try clear hx4); (try clear hx3); (try clear hx2); (try clear hx1); (try clear hx9); (try clear c13_); (try clear hT3); (try clear hT2); (try clear hT1); (try clear hm9); (try clear hn); (try clear hk); (try clear hm); (try clear hexit43); (try clear hRs); (try clear hRc); (try clear hRl); (try clear hRf); omega) | omega))) rfl ⟨by (first | ((try clear hx4); (try clear hx3); (try clear hx2); (try clear hx1); (try clear hx9); (try clear c13_); (try clear hT3); (try clear hT2); (try clear hT1); (try clear hm9); (try clear hn); (try clear hm); (try clear hexit43); (try clear ht); (try clear hRs); (try clear hRc); (try clear hRl); (try clear hRf); omega) | omega), by (first | ((try clear hx4); (try clear hx3); (try clear hx2); (try clear hx1); (try clear hx9); (try clear hT3); (try clear hm9); (try clear hn); (try clear hk); (try clear hm); (try clear hexit43); (try clear ht); (try clear hRs); (try clear hRc); (try clear hRl); (try clear hRf); omega) | omega)⟩ (by decide) dX10_ofSort_25 ?_
      refine lv_iload_n hx hb dX10_ofSort_26 rfl (lv_at hl 2 rfl) ?_
      refine fz_icmp_ne (tgt := 34) (by first | exact hq | (constructor <;> (first | ((try clear hx4); (try clear hx3); (try clear hx2); (try clear hx9); (try clear c13_); (try clear hT3); (try clear hT2); (try clear hT1); (try clear hm9); (try clear hn); (try clear hk); (try clear hm); (try clear hexit43); (try clear ht); (try clear hRs); (try clear hRc); (try clear hRl); (try clear hRf); omega) | omega))) (by first | exact hq | (constructor <;> omega)) hx hb dX10_ofSort_27 (by decide) (fun c27_ => ?_) (fun c27_ => ?_)
      · refine lv_iconst (v := iZ 0) hx hb dX10_ofSort_34 rfl ?_
        refine lv_iadd hx hb dX10_ofSort_35 ?_
        refine lv_topi (fun x9 ex9 => ?_)
        obtain rfl : x9 = iZ (n + 0) := ex9.trans (iZ_add _ _)
        refine lv_istore_n (lv' := [(3, .int (iZ (n + 0))), (4, .int (iZ (i))), (2, .int (iZ (q))), (1, .int (iZ (t))), (0, .ref h0)]) hx hb dX10_ofSort_36 rfl hl (by decide) rfl (fun ls hl => ?_)
        refine lv_iinc (v := iZ (i + 1)) (lv' := [(4, .int (iZ (i + 1))), (3, .int (iZ (n + 0))), (2, .int (iZ (q))), (1, .int (iZ (t))), (0, .ref h0)]) hx hb dX10_ofSort_37 hl (k := 1) rfl (iZ_add _ _) (by decide) rfl (fun ls hl => ?_)
        refine lv_goto (tgt := 5) hx hb dX10_ofSort_40 (by decide) ?_
        exact ih (n + 0) (i + 1) μ H locs ls (by rfl) (by (first | ((try clear ex9); (try clear c27_); (try clear hx4); (try clear hx3); (try clear hx2); (try clear hx1); (try clear hx9); (try clear hT3); (try clear hT2); (try clear hT1); (try clear hm9); (try clear hn); (try clear hm); (try clear hexit43); (try clear ht); (try clear hRs); (try clear hRc); (try clear hRl); (try clear hRf); omega) | omega)) (by (first | ((try clear ex9); (try clear c27_); (try clear hx4); (try clear hx3); (try clear hx2); (try clear hx1); (try clear hx9); (try clear c13_); (try clear hT3); (try clear hT2); (try clear hT1); (try clear hm9); (try clear hk); (try clear hm); (try clear hexit43); (try clear ht); (try clear hRs); (try clear hRc); (try clear hRl); (try clear hRf); omega) | omega)) (by (first | ((try clear ex9); (try clear hx4); (try clear hx3); (try clear hx2); (try clear hx1); (try clear hx9); (try clear hT3); (try clear hn); (try clear hm); (try clear hexit43); (try clear ht); (try clear hRs); (try clear hRc); (try clear hRl); (try clear hRf); omega) | omega)) hP hS (lv_sub hl [0, 1, 2, 3, 4] rfl)
      · refine lv_iconst (v := iZ 1) hx hb dX10_ofSort_30 rfl ?_
        refine lv_goto (tgt := 35) hx hb dX10_ofSort_31 (by decide) ?_
        refine lv_iadd hx hb dX10_ofSort_35 ?_
        refine lv_topi (fun x9 ex9 => ?_)
        obtain rfl : x9 = iZ (n + 1) := ex9.trans (iZ_add _ _)
        refine lv_istore_n (lv' := [(3, .int (iZ (n + 1))), (4, .int (iZ (i))), (2, .int (iZ (q))), (1, .int (iZ (t))), (0, .ref h0)]) hx hb dX10_ofSort_36 rfl hl (by decide) rfl (fun ls hl => ?_)
        refine lv_iinc (v := iZ (i + 1)) (lv' := [(4, .int (iZ (i + 1))), (3, .int (iZ (n + 1))), (2, .int (iZ (q))), (1, .int (iZ (t))), (0, .ref h0)]) hx hb dX10_ofSort_37 hl (k := 1) rfl (iZ_add _ _) (by decide) rfl (fun ls hl => ?_)
        refine lv_goto (tgt := 5) hx hb dX10_ofSort_40 (by decide) ?_
        exact ih (n + 1) (i + 1) μ H locs ls (by rfl) (by (first | ((try clear ex9); (try clear c27_); (try clear hx4); (try clear hx3); (try clear hx2); (try clear hx1); (try clear hx9); (try clear hT3); (try clear hT2); (try clear hT1); (try clear hm9); (try clear hn); (try clear hm); (try clear hexit43); (try clear ht); (try clear hRs); (try clear hRc); (try clear hRl); (try clear hRf); omega) | omega)) (by (first | ((try clear ex9); (try clear c27_); (try clear hx4); (try clear hx3); (try clear hx2); (try clear hx1); (try clear hx9); (try clear c13_); (try clear hT3); (try clear hT2); (try clear hT1); (try clear hm9); (try clear hk); (try clear hm); (try clear hexit43); (try clear ht); (try clear hRs); (try clear hRc); (try clear hRl); (try clear hRf); omega) | omega)) (by (first | ((try clear ex9); (try clear c27_); (try clear hx4); (try clear hx3); (try clear hx2); (try clear hx1); (try clear hx9); (try clear hT3); (try clear hn); (try clear hm); (try clear hexit43); (try clear ht); (try clear hRs); (try clear hRc); (try clear hRl); (try clear hRf); omega) | omega)) hP hS (lv_sub hl [0, 1, 2, 3, 4] rfl)
set_option maxHeartbeats 4000000 in
set_option maxRecDepth 100000 in
theorem m_ofSort (l : Launch) (dC : Nat → ClassId) (dI : Nat → Nat → Nat) (cI cZ cII cIII : ClassId) (h0 sz : Nat) (μ : va_M) (t : Int) (q : Int) (ht : 0 ≤ t ∧ t < 70) (hT : tok μ t.toNat) (hq : inR q) : Met l yX10_ofSort (Cond.code yX10_ofSort cX10_ofSort 5 (some .int) :: wsG) ({ frames := 1, cells := 0, slots := 0, locals := 14 } : Room) (va_Pc [.ref h0, .int (iZ (t)), .int (iZ (q))] (fun U => U.heap.size = sz ∧ va_P (dC, dI) vwCl (fw (mE cI cZ cII cIII h0) h0 6325 μ) U.heap ∧ va_K (dC, dI) vwCl (mT cI cZ cII cIII) U)) (va_Qi (fun (r9 : Int32) (u : va_M × Int) => r9 = iZ u.2 ∧ (fun (u : va_M) (r : Int) => u = μ ∧ 0 ≤ r ∧ r ≤ 900) u.1 u.2) (fun u t => va_P (dC, dI) vwCl (fw (mE cI cZ cII cIII h0) h0 6325 u.1) t.heap ∧ va_K (dC, dI) vwCl (mT cI cZ cII cIII) t) (fA h0 6325 sz)) 0 0 (fA h0 6325 sz) := by
  refine Met.ofW (cc := cX10_ofSort) (maxL := 5) (ret := (some .int)) (by decide) rfl ?_
  intro p e s m args below meth c s₁ B hml hv
  obtain ⟨rfl, hsz, hP, hK⟩ := hv
  have hx := B.exec
  have hb := B.bytes
  have hr := B.returns
  have hts : ∀ w ∈ wsG, w.before _ s = true := hG_of (atoms_spec (ws := (Cond.code yX10_ofSort cX10_ofSort 5 (some .int) :: wsG)) B.pre)
  have hown : s.vm.findClass RX10 = some m.cls := findClass_of_methodNamed B.named
  have hlocks := B.notSynchronized
  subst hsz
  have hS : va_S (fA h0 6325 s.heap.size) s.heap s.heap [] := va_S.rf
  have hl := lv_entry ([.ref h0, .int (iZ (t)), .int (iZ (q))]) (n := 5) (Nat.le_of_ble_eq_true rfl)
  rw [lg_entry_eq]
  generalize (lg_sl ([.ref h0, .int (iZ (t)), .int (iZ (q))]) ++ List.replicate (5 - (lg_sl ([.ref h0, .int (iZ (t)), .int (iZ (q))])).length) Slot.unset).toArray = ls at hl ⊢
  have hl : lv_has ls 5 [(0, .ref h0), (1, .int (iZ (t))), (2, .int (iZ (q)))] := hl
  refine lv_iconst (v := iZ 0) hx hb dX10_ofSort_0 rfl ?_
  refine lv_istore_n (lv' := [(3, .int (iZ (0))), (0, .ref h0), (1, .int (iZ (t))), (2, .int (iZ (q)))]) hx hb dX10_ofSort_1 rfl hl (by decide) rfl (fun ls hl => ?_)
  refine lv_iconst (v := iZ 0) hx hb dX10_ofSort_2 rfl ?_
  refine lv_istore (lv' := [(4, .int (iZ (0))), (3, .int (iZ (0))), (0, .ref h0), (1, .int (iZ (t))), (2, .int (iZ (q)))]) hx hb dX10_ofSort_3 hl (by decide) rfl (fun ls hl => ?_)
  refine LX10_ofSort_5 hx hb hml hown hts hK (Nat.le_of_ble_eq_true rfl) (Nat.le_of_ble_eq_true rfl) (Nat.le_of_ble_eq_true rfl) (Nat.le_of_ble_eq_true rfl) (μ) (t) (q) (by assumption) (by assumption) (by assumption) ?_ _ (0) (0) μ s.heap [] ls (by rfl) (by have h9 := hT.1; (first | ((try clear hsz); (try clear s₁); (try clear ht); omega) | omega)) (by (first | ((try clear hsz); (try clear s₁); (try clear ht); omega) | omega)) (Nat.lt_succ_self _) hP hS (lv_sub hl [0, 1, 4, 3, 2] rfl)
  · intro n_1 i_1 μ1_ H locs ls q1_1 q2_1 hP hS hl
    have hl : lv_has ls 5 [(3, .int (iZ (n_1)))] := hl
    refine lv_iload_n hx hb dX10_ofSort_43 rfl (lv_at hl 0 rfl) ?_
    exact W.iret (v := iZ (n_1)) hx hb hr (fun t9 ht9 hW9 => ⟨⟨iZ (n_1), (μ1_, n_1), rfl, ⟨rfl, (by
                dsimp only
                exact ⟨q1_1, q2_1⟩)⟩, by rw [ht9]; exact hP, va_K.moved hW9.alike hK⟩, hS.F ht9⟩) hS.2.2 dX10_ofSort_44
set_option maxHeartbeats 4000000 in
set_option maxRecDepth 100000 in
theorem LX10_parentOf_5 {p : Program} {l : Launch} {e : Env} {R : Room} {s : State} {m : MethodId} {args : Array Value} {below : List Frame} {meth : Method} {c : Code} {cells slots : Nat} {Q : State → Prop} {dC : Nat → ClassId} {dI : Nat → Nat → Nat} {h0 : Nat} {cI cZ cII cIII : ClassId} (hx : p.tables.exec = Jvm.exec) (hb : c.code = cX10_parentOf) (hml : c.maxLocals = 5) (hown : s.vm.findClass RX10 = some m.cls) (hts : ∀ w ∈ wsG, w.before args s = true) (hK : va_K (dC, dI) vwCl (mT cI cZ cII cIII) s) (hRf : 1 ≤ R.frames) (hRl : 14 ≤ R.locals) (hRc : cells ≤ R.cells) (hRs : slots ≤ R.slots) (μ0 : va_M) (t : Int) (i : Int) (ht : 0 ≤ t ∧ t < 70) (hT : tok μ0 t.toNat) (hi : 0 ≤ i ∧ i < μ0 719 t.toNat) (hexit36 : ∀ (f9 : Int) (k : Int) (μ : va_M) (H : Heap) (locs : List Loc) (ls : Array Slot), (μ = μ0) → (-1 ≤ f9 ∧ f9 < 900) → va_P (dC, dI) vwCl (fw (mE cI cZ cII cIII h0) h0 6325 μ) H → va_S (fA h0 6325 s.heap.size) s.heap H locs → lv_has ls 5 [(3, .int (iZ (f9)))] → W p l e R s m args below meth c H locs cells slots Q (F0 m 36 ls [])) :
    ∀ (n9 : Nat) (f9 : Int) (k : Int) (μ : va_M) (H : Heap) (locs : List Loc) (ls : Array Slot), (μ = μ0) → (0 ≤ k ∧ k ≤ i) → (-1 ≤ f9 ∧ f9 < 900) → (1000 - k).toNat < n9 → va_P (dC, dI) vwCl (fw (mE cI cZ cII cIII h0) h0 6325 μ) H → va_S (fA h0 6325 s.heap.size) s.heap H locs → lv_has ls 5 [(4, .int (iZ (k))), (3, .int (iZ (f9))), (2, .int (iZ (i))), (1, .int (iZ (t))), (0, .ref h0)] → W p l e R s m args below meth c H locs cells slots Q (F0 m 5 ls []) := by
  intro n9
  induction n9 with
  | zero => intro f9 k μ H locs ls hm hk hf hm9 hP hS hl; exact absurd hm9 (Nat.not_lt_zero _)
  | succ n9 ih =>
    intro f9 k μ H locs ls hm hk hf hm9 hP hS hl
    subst hm
    obtain ⟨hT1, hT2, hT3⟩ := hT
    refine lv_iload hx hb dX10_parentOf_5 (lv_at hl 0 rfl) ?_
    refine lv_iload_n hx hb dX10_parentOf_7 rfl (lv_at hl 2 rfl) ?_
    refine fz_icmp_ge (tgt := 36) (by constructor <;> (first | ((try clear hT3); (try clear hm9); (try clear hf); (try clear hm); (try clear hexit36); (try clear ht); (try clear hRs); (try clear hRc); (try clear hRl); (try clear hRf); omega) | omega)) (by constructor <;> (first | ((try clear hT3); (try clear hm9); (try clear hf); (try clear hk); (try clear hm); (try clear hexit36); (try clear ht); (try clear hRs); (try clear hRc); (try clear hRl); (try clear hRf); omega) | omega)) hx hb dX10_parentOf_8 (by decide) (fun c8_ => ?_) (fun c8_ => ?_)
    · exact hexit36 (f9) (k) μ H locs ls (by rfl) (by (first | ((try clear c8_); (try clear hT3); (try clear hT2); (try clear hT1); (try clear hm9); (try clear hk); (try clear hm); (try clear hexit36); (try clear hi); (try clear ht); (try clear hRs); (try clear hRc); (try clear hRl); (try clear hRf); omega) | omega)) hP hS (lv_sub hl [1] rfl)
    · have hx9 := hT3 k.toNat (by (first | ((try clear hx9); (try clear hT3); (try clear hm9); (try clear hf); (try clear hm); (try clear hexit36); (try clear ht); (try clear hRs); (try clear hRc); (try clear hRl); (try clear hRf); omega) | omega))
      obtain ⟨hx1, hx2, hx3, hx4⟩ := hx9
      refine lv_iload_n hx hb dX10_parentOf_11 rfl (lv_at hl 2 rfl) ?_
      refine lv_iload hx hb dX10_parentOf_12 (lv_at hl 0 rfl) ?_
      refine lv_aload_n hx hb dX10_parentOf_14 rfl (lv_at hl 4 rfl) ?_
      refine fz_get (D := (dC, dI)) (ci := 10) (v := .ref (h0 + 648)) (C := RX10) (T := TX10) (N := 53) hx hb hts inG10 hown hK hP (k := 0) (by decide) (F := mF h0) mE_obj rfl 20 (by decide) (hts _ k1186) (fun _ h9 => h9) rfl dX10_parentOf_15 ?_
      refine lv_iload_n hx hb dX10_parentOf_18 rfl (lv_at hl 3 rfl) ?_
      refine fz_ald (k := 648) (n := 70) (k2 := (649 + (t).toNat)) hx hb hK hP 2 rfl (by decide) mE_span rfl ⟨by (first | ((try clear hx4); (try clear hx3); (try clear hx2); (try clear hx1); (try clear hx9); (try clear c8_); (try clear hT3); (try clear hT2); (try clear hT1); (try clear hm9); (try clear hf); (try clear hk); (try clear hm); (try clear hexit36); (try clear hi); (try clear hRs); (try clear hRc); (try clear hRl); (try clear hRf); omega) | omega), by (first | ((try clear hx4); (try clear hx3); (try clear hx2); (try clear hx1); (try clear hx9); (try clear c8_); (try clear hT3); (try clear hT2); (try clear hT1); (try clear hm9); (try clear hf); (try clear hk); (try clear hm); (try clear hexit36); (try clear hi); (try clear hRs); (try clear hRc); (try clear hRl); (try clear hRf); omega) | omega)⟩ (by decide) (if_pos (by (first | ((try clear hx4); (try clear hx3); (try clear hx2); (try clear hx1); (try clear hx9); (try clear c8_); (try clear hT3); (try clear hT2); (try clear hT1); (try clear hm9); (try clear hf); (try clear hk); (try clear hm); (try clear hexit36); (try clear hi); (try clear hRs); (try clear hRc); (try clear hRl); (try clear hRf); omega) | omega))) dX10_parentOf_19 ?_
      refine lv_iload hx hb dX10_parentOf_20 (lv_at hl 0 rfl) ?_
      refine fz_ld (k := (649 + (t).toNat)) (n := 900) hx hb hK hP 0 (by (first | ((try clear hx4); (try clear hx3); (try clear hx2); (try clear hx1); (try clear hx9); (try clear c8_); (try clear hT3); (try clear hT2); (try clear hT1); (try clear hm9); (try clear hf); (try clear hk); (try clear hm); (try clear hexit36); (try clear hi); (try clear hRs); (try clear hRc); (try clear hRl); (try clear hRf); omega) | omega)) (mE_spanR (by (first | ((try clear hx4); (try clear hx3); (try clear hx2); (try clear hx1); (try clear hx9); (try clear c8_); (try clear hT3); (try clear hT2); (try clear hT1); (try clear hm9); (try clear hf); (try clear hk); (try clear hm); (try clear hexit36); (try clear hi); (try clear hRs); (try clear hRc); (try clear hRl); (try clear hRf); omega) | omega))) rfl ⟨by (first | ((try clear hx4); (try clear hx3); (try clear hx2); (try clear hx1); (try clear hx9); (try clear c8_); (try clear hT3); (try clear hT2); (try clear hT1); (try clear hm9); (try clear hf); (try clear hm); (try clear hexit36); (try clear hi); (try clear ht); (try clear hRs); (try clear hRc); (try clear hRl); (try clear hRf); omega) | omega), by (first | ((try clear hx4); (try clear hx3); (try clear hx2); (try clear hx1); (try clear hx9); (try clear hT3); (try clear hm9); (try clear hf); (try clear hk); (try clear hm); (try clear hexit36); (try clear ht); (try clear hRs); (try clear hRc); (try clear hRl); (try clear hRf); omega) | omega)⟩ (by decide) dX10_parentOf_22 ?_
      refine lv_iadd hx hb dX10_parentOf_23 ?_
      refine lv_topi (fun x9 ex9 => ?_)
      obtain rfl : x9 = iZ (k + (μ (649 + (t).toNat) (k).toNat)) := ex9.trans (iZ_add _ _)
      refine fz_icmp_ge (tgt := 30) (by constructor <;> (first | ((try clear ex9); (try clear hx4); (try clear hx3); (try clear hx2); (try clear hx1); (try clear hx9); (try clear c8_); (try clear hT3); (try clear hm9); (try clear hf); (try clear hk); (try clear hm); (try clear hexit36); (try clear ht); (try clear hRs); (try clear hRc); (try clear hRl); (try clear hRf); omega) | omega)) (by constructor <;> (first | ((try clear ex9); (try clear hx2); (try clear hx1); (try clear hx9); (try clear hT3); (try clear hm9); (try clear hf); (try clear hm); (try clear hexit36); (try clear ht); (try clear hRs); (try clear hRc); (try clear hRl); (try clear hRf); omega) | omega)) hx hb dX10_parentOf_24 (by decide) (fun c24_ => ?_) (fun c24_ => ?_)
      · refine lv_iinc (v := iZ (k + 1)) (lv' := [(4, .int (iZ (k + 1))), (3, .int (iZ (f9))), (2, .int (iZ (i))), (1, .int (iZ (t))), (0, .ref h0)]) hx hb dX10_parentOf_30 hl (k := 0) rfl (iZ_add _ _) (by decide) rfl (fun ls hl => ?_)
        refine lv_goto (tgt := 5) hx hb dX10_parentOf_33 (by decide) ?_
        exact ih (f9) (k + 1) μ H locs ls (by rfl) (by (first | ((try clear c24_); (try clear ex9); (try clear hx4); (try clear hx3); (try clear hx2); (try clear hx1); (try clear hx9); (try clear hT3); (try clear hT2); (try clear hT1); (try clear hm9); (try clear hf); (try clear hm); (try clear hexit36); (try clear hi); (try clear ht); (try clear hRs); (try clear hRc); (try clear hRl); (try clear hRf); omega) | omega)) (by (first | ((try clear c24_); (try clear ex9); (try clear hx4); (try clear hx3); (try clear hx2); (try clear hx1); (try clear hx9); (try clear c8_); (try clear hT3); (try clear hT2); (try clear hT1); (try clear hm9); (try clear hk); (try clear hm); (try clear hexit36); (try clear hi); (try clear ht); (try clear hRs); (try clear hRc); (try clear hRl); (try clear hRf); omega) | omega)) (by (first | ((try clear c24_); (try clear ex9); (try clear hx2); (try clear hx1); (try clear hx9); (try clear hT3); (try clear hf); (try clear hm); (try clear hexit36); (try clear ht); (try clear hRs); (try clear hRc); (try clear hRl); (try clear hRf); omega) | omega)) hP hS (lv_sub hl [0, 1, 2, 3, 4] rfl)
      · refine lv_iload hx hb dX10_parentOf_27 (lv_at hl 0 rfl) ?_
        refine lv_istore_n (lv' := [(3, .int (iZ (k))), (4, .int (iZ (k))), (2, .int (iZ (i))), (1, .int (iZ (t))), (0, .ref h0)]) hx hb dX10_parentOf_29 rfl hl (by decide) rfl (fun ls hl => ?_)
        refine lv_iinc (v := iZ (k + 1)) (lv' := [(4, .int (iZ (k + 1))), (3, .int (iZ (k))), (2, .int (iZ (i))), (1, .int (iZ (t))), (0, .ref h0)]) hx hb dX10_parentOf_30 hl (k := 1) rfl (iZ_add _ _) (by decide) rfl (fun ls hl => ?_)
        refine lv_goto (tgt := 5) hx hb dX10_parentOf_33 (by decide) ?_
        exact ih (k) (k + 1) μ H locs ls (by rfl) (by (first | ((try clear c24_); (try clear ex9); (try clear hx4); (try clear hx3); (try clear hx2); (try clear hx1); (try clear hx9); (try clear hT3); (try clear hT2); (try clear hT1); (try clear hm9); (try clear hf); (try clear hm); (try clear hexit36); (try clear hi); (try clear ht); (try clear hRs); (try clear hRc); (try clear hRl); (try clear hRf); omega) | omega)) (by (first | ((try clear c24_); (try clear ex9); (try clear hx4); (try clear hx3); (try clear hx2); (try clear hx1); (try clear hx9); (try clear hT3); (try clear hm9); (try clear hf); (try clear hm); (try clear hexit36); (try clear ht); (try clear hRs); (try clear hRc); (try clear hRl); (try clear hRf); omega) | omega)) (by (first | ((try clear ex9); (try clear hx2); (try clear hx1); (try clear hx9); (try clear hT3); (try clear hf); (try clear hm); (try clear hexit36); (try clear ht); (try clear hRs); (try clear hRc); (try clear hRl); (try clear hRf); omega) | omega)) hP hS (lv_sub hl [0, 1, 2, 3, 4] rfl)
set_option maxHeartbeats 4000000 in
set_option maxRecDepth 100000 in
theorem m_parentOf (l : Launch) (dC : Nat → ClassId) (dI : Nat → Nat → Nat) (cI cZ cII cIII : ClassId) (h0 sz : Nat) (μ : va_M) (t : Int) (i : Int) (ht : 0 ≤ t ∧ t < 70) (hT : tok μ t.toNat) (hi : 0 ≤ i ∧ i < μ 719 t.toNat) : Met l yX10_parentOf (Cond.code yX10_parentOf cX10_parentOf 5 (some .int) :: wsG) ({ frames := 1, cells := 0, slots := 0, locals := 14 } : Room) (va_Pc [.ref h0, .int (iZ (t)), .int (iZ (i))] (fun U => U.heap.size = sz ∧ va_P (dC, dI) vwCl (fw (mE cI cZ cII cIII h0) h0 6325 μ) U.heap ∧ va_K (dC, dI) vwCl (mT cI cZ cII cIII) U)) (va_Qi (fun (r9 : Int32) (u : va_M × Int) => r9 = iZ u.2 ∧ (fun (u : va_M) (r : Int) => u = μ ∧ -1 ≤ r ∧ r < 900) u.1 u.2) (fun u t => va_P (dC, dI) vwCl (fw (mE cI cZ cII cIII h0) h0 6325 u.1) t.heap ∧ va_K (dC, dI) vwCl (mT cI cZ cII cIII) t) (fA h0 6325 sz)) 0 0 (fA h0 6325 sz) := by
  refine Met.ofW (cc := cX10_parentOf) (maxL := 5) (ret := (some .int)) (by decide) rfl ?_
  intro p e s m args below meth c s₁ B hml hv
  obtain ⟨rfl, hsz, hP, hK⟩ := hv
  have hx := B.exec
  have hb := B.bytes
  have hr := B.returns
  have hts : ∀ w ∈ wsG, w.before _ s = true := hG_of (atoms_spec (ws := (Cond.code yX10_parentOf cX10_parentOf 5 (some .int) :: wsG)) B.pre)
  have hown : s.vm.findClass RX10 = some m.cls := findClass_of_methodNamed B.named
  have hlocks := B.notSynchronized
  subst hsz
  have hS : va_S (fA h0 6325 s.heap.size) s.heap s.heap [] := va_S.rf
  have hl := lv_entry ([.ref h0, .int (iZ (t)), .int (iZ (i))]) (n := 5) (Nat.le_of_ble_eq_true rfl)
  rw [lg_entry_eq]
  generalize (lg_sl ([.ref h0, .int (iZ (t)), .int (iZ (i))]) ++ List.replicate (5 - (lg_sl ([.ref h0, .int (iZ (t)), .int (iZ (i))])).length) Slot.unset).toArray = ls at hl ⊢
  have hl : lv_has ls 5 [(0, .ref h0), (1, .int (iZ (t))), (2, .int (iZ (i)))] := hl
  refine lv_iconst (v := iZ (-1)) hx hb dX10_parentOf_0 rfl ?_
  refine lv_istore_n (lv' := [(3, .int (iZ ((-1)))), (0, .ref h0), (1, .int (iZ (t))), (2, .int (iZ (i)))]) hx hb dX10_parentOf_1 rfl hl (by decide) rfl (fun ls hl => ?_)
  refine lv_iconst (v := iZ 0) hx hb dX10_parentOf_2 rfl ?_
  refine lv_istore (lv' := [(4, .int (iZ (0))), (3, .int (iZ ((-1)))), (0, .ref h0), (1, .int (iZ (t))), (2, .int (iZ (i)))]) hx hb dX10_parentOf_3 hl (by decide) rfl (fun ls hl => ?_)
  refine LX10_parentOf_5 hx hb hml hown hts hK (Nat.le_of_ble_eq_true rfl) (Nat.le_of_ble_eq_true rfl) (Nat.le_of_ble_eq_true rfl) (Nat.le_of_ble_eq_true rfl) (μ) (t) (i) (by assumption) (by assumption) (by assumption) ?_ _ ((-1)) (0) μ s.heap [] ls (by rfl) (by (first | ((try clear hsz); (try clear s₁); (try clear ht); omega) | omega)) (by (first | ((try clear hsz); (try clear s₁); (try clear hi); (try clear ht); omega) | omega)) (Nat.lt_succ_self _) hP hS (lv_sub hl [0, 1, 4, 3, 2] rfl)
  · intro f9_1 k_1 μ1_ H locs ls q1_1 q2_1 hP hS hl
    have hl : lv_has ls 5 [(3, .int (iZ (f9_1)))] := hl
    refine lv_iload_n hx hb dX10_parentOf_36 rfl (lv_at hl 0 rfl) ?_
    exact W.iret (v := iZ (f9_1)) hx hb hr (fun t9 ht9 hW9 => ⟨⟨iZ (f9_1), (μ1_, f9_1), rfl, ⟨rfl, (by
                dsimp only
                exact ⟨q1_1, q2_1⟩)⟩, by rw [ht9]; exact hP, va_K.moved hW9.alike hK⟩, hS.F ht9⟩) hS.2.2 dX10_parentOf_37
set_option maxHeartbeats 4000000 in
set_option maxRecDepth 100000 in
theorem LX10_depthOf_6 {p : Program} {l : Launch} {e : Env} {R : Room} {s : State} {m : MethodId} {args : Array Value} {below : List Frame} {meth : Method} {c : Code} {cells slots : Nat} {Q : State → Prop} {dC : Nat → ClassId} {dI : Nat → Nat → Nat} {h0 : Nat} {cI cZ cII cIII : ClassId} (hx : p.tables.exec = Jvm.exec) (hb : c.code = cX10_depthOf) (hml : c.maxLocals = 6) (hown : s.vm.findClass RX10 = some m.cls) (hts : ∀ w ∈ wsG, w.before args s = true) (hK : va_K (dC, dI) vwCl (mT cI cZ cII cIII) s) (hRf : 1 ≤ R.frames) (hRl : 14 ≤ R.locals) (hRc : cells ≤ R.cells) (hRs : slots ≤ R.slots) (μ0 : va_M) (t : Int) (i : Int) (q : Int) (ht : 0 ≤ t ∧ t < 70) (hT : tok μ0 t.toNat) (hi : 0 ≤ i ∧ i < μ0 719 t.toNat) (hq : inR q) (hexit62 : ∀ (n : Int) (k : Int) (μ : va_M) (H : Heap) (locs : List Loc) (ls : Array Slot), (μ = μ0) → (0 ≤ n ∧ n ≤ 900) → va_P (dC, dI) vwCl (fw (mE cI cZ cII cIII h0) h0 6325 μ) H → va_S (fA h0 6325 s.heap.size) s.heap H locs → lv_has ls 6 [(4, .int (iZ (n)))] → W p l e R s m args below meth c H locs cells slots Q (F0 m 62 ls [])) :
    ∀ (n9 : Nat) (n : Int) (k : Int) (μ : va_M) (H : Heap) (locs : List Loc) (ls : Array Slot), (μ = μ0) → (0 ≤ k ∧ k ≤ i) → (0 ≤ n ∧ n ≤ k) → (1000 - k).toNat < n9 → va_P (dC, dI) vwCl (fw (mE cI cZ cII cIII h0) h0 6325 μ) H → va_S (fA h0 6325 s.heap.size) s.heap H locs → lv_has ls 6 [(5, .int (iZ (k))), (4, .int (iZ (n))), (3, .int (iZ (q))), (2, .int (iZ (i))), (1, .int (iZ (t))), (0, .ref h0)] → W p l e R s m args below meth c H locs cells slots Q (F0 m 6 ls []) := by
  intro n9
  induction n9 with
  | zero => intro n k μ H locs ls hm hk hn hm9 hP hS hl; exact absurd hm9 (Nat.not_lt_zero _)
  | succ n9 ih =>
    intro n k μ H locs ls hm hk hn hm9 hP hS hl
    subst hm
    obtain ⟨hT1, hT2, hT3⟩ := hT
    refine lv_iload hx hb dX10_depthOf_6 (lv_at hl 0 rfl) ?_
    refine lv_iload_n hx hb dX10_depthOf_8 rfl (lv_at hl 3 rfl) ?_
    refine fz_icmp_ge (tgt := 62) (by constructor <;> (first | ((try clear hT3); (try clear hm9); (try clear hm); (try clear hexit62); (try clear ht); (try clear hRs); (try clear hRc); (try clear hRl); (try clear hRf); omega) | omega)) (by constructor <;> (first | ((try clear hT3); (try clear hm9); (try clear hm); (try clear hexit62); (try clear ht); (try clear hRs); (try clear hRc); (try clear hRl); (try clear hRf); omega) | omega)) hx hb dX10_depthOf_9 (by decide) (fun c9_ => ?_) (fun c9_ => ?_)
    · exact hexit62 (n) (k) μ H locs ls (by rfl) (by (first | ((try clear hT3); (try clear hm9); (try clear hm); (try clear hexit62); (try clear ht); (try clear hRs); (try clear hRc); (try clear hRl); (try clear hRf); omega) | omega)) hP hS (lv_sub hl [1] rfl)
    · have hx9 := hT3 k.toNat (by (first | ((try clear hx9); (try clear hT3); (try clear hm9); (try clear hn); (try clear hm); (try clear hexit62); (try clear ht); (try clear hRs); (try clear hRc); (try clear hRl); (try clear hRf); omega) | omega))
      obtain ⟨hx1, hx2, hx3, hx4⟩ := hx9
      refine lv_iload hx hb dX10_depthOf_12 (lv_at hl 1 rfl) ?_
      refine lv_iload_n hx hb dX10_depthOf_14 rfl (lv_at hl 3 rfl) ?_
      refine lv_iload hx hb dX10_depthOf_15 (lv_at hl 0 rfl) ?_
      refine lv_aload_n hx hb dX10_depthOf_17 rfl (lv_at hl 5 rfl) ?_
      refine fz_get (D := (dC, dI)) (ci := 10) (v := .ref (h0 + 648)) (C := RX10) (T := TX10) (N := 53) hx hb hts inG10 hown hK hP (k := 0) (by decide) (F := mF h0) mE_obj rfl 20 (by decide) (hts _ k1186) (fun _ h9 => h9) rfl dX10_depthOf_18 ?_
      refine lv_iload_n hx hb dX10_depthOf_21 rfl (lv_at hl 4 rfl) ?_
      refine fz_ald (k := 648) (n := 70) (k2 := (649 + (t).toNat)) hx hb hK hP 2 rfl (by decide) mE_span rfl ⟨by (first | ((try clear hx4); (try clear hx3); (try clear hx2); (try clear hx1); (try clear hx9); (try clear c9_); (try clear hT3); (try clear hT2); (try clear hT1); (try clear hm9); (try clear hn); (try clear hk); (try clear hm); (try clear hexit62); (try clear hi); (try clear hRs); (try clear hRc); (try clear hRl); (try clear hRf); omega) | omega), by (first | ((try clear hx4); (try clear hx3); (try clear hx2); (try clear hx1); (try clear hx9); (try clear c9_); (try clear hT3); (try clear hT2); (try clear hT1); (try clear hm9); (try clear hn); (try clear hk); (try clear hm); (try clear hexit62); (try clear hi); (try clear hRs); (try clear hRc); (try clear hRl); (try clear hRf); omega) | omega)⟩ (by decide) (if_pos (by (first | ((try clear hx4); (try clear hx3); (try clear hx2); (try clear hx1); (try clear hx9); (try clear c9_); (try clear hT3); (try clear hT2); (try clear hT1); (try clear hm9); (try clear hn); (try clear hk); (try clear hm); (try clear hexit62); (try clear hi); (try clear hRs); (try clear hRc); (try clear hRl); (try clear hRf); omega) | omega))) dX10_depthOf_22 ?_
      refine lv_iload hx hb dX10_depthOf_23 (lv_at hl 0 rfl) ?_
      refine fz_ld (k := (649 + (t).toNat)) (n := 900) hx hb hK hP 0 (by (first | ((try clear hx4); (try clear hx3); (try clear hx2); (try clear hx1); (try clear hx9); (try clear c9_); (try clear hT3); (try clear hT2); (try clear hT1); (try clear hm9); (try clear hn); (try clear hk); (try clear hm); (try clear hexit62); (try clear hi); (try clear hRs); (try clear hRc); (try clear hRl); (try clear hRf); omega) | omega)) (mE_spanR (by (first | ((try clear hx4); (try clear hx3); (try clear hx2); (try clear hx1); (try clear hx9); (try clear c9_); (try clear hT3); (try clear hT2); (try clear hT1); (try clear hm9); (try clear hn); (try clear hk); (try clear hm); (try clear hexit62); (try clear hi); (try clear hRs); (try clear hRc); (try clear hRl); (try clear hRf); omega) | omega))) rfl ⟨by (first | ((try clear hx4); (try clear hx3); (try clear hx2); (try clear hx1); (try clear hx9); (try clear c9_); (try clear hT3); (try clear hT2); (try clear hT1); (try clear hm9); (try clear hn); (try clear hm); (try clear hexit62); (try clear hi); (try clear ht); (try clear hRs); (try clear hRc); (try clear hRl); (try clear hRf); omega) | omega), by (first | ((try clear hx4); (try clear hx3); (try clear hx2); (try clear hx1); (try clear hx9); (try clear hT3); (try clear hm9); (try clear hk); (try clear hm); (try clear hexit62); (try clear ht); (try clear hRs); (try clear hRc); (try clear hRl); (try clear hRf); omega) | omega)⟩ (by decide) dX10_depthOf_25 ?_
      refine lv_iadd hx hb dX10_depthOf_26 ?_
      refine lv_topi (fun x9 ex9 => ?_)
      obtain rfl : x9 = iZ (k + (μ (649 + (t).toNat) (k).toNat)) := ex9.trans (iZ_add _ _)
      refine fz_icmp_ge (tgt := 52) (by constructor <;> (first | ((try clear ex9); (try clear hx4); (try clear hx3); (try clear hx2); (try clear hx1); (try clear hx9); (try clear hT3); (try clear hm9); (try clear hk); (try clear hm); (try clear hexit62); (try clear ht); (try clear hRs); (try clear hRc); (try clear hRl); (try clear hRf); omega) | omega)) (by constructor <;> (first | ((try clear ex9); (try clear hx2); (try clear hx1); (try clear hx9); (try clear hT3); (try clear hm9); (try clear hm); (try clear hexit62); (try clear ht); (try clear hRs); (try clear hRc); (try clear hRl); (try clear hRf); omega) | omega)) hx hb dX10_depthOf_27 (by decide) (fun c27_ => ?_) (fun c27_ => ?_)
      · refine lv_iconst (v := iZ 0) hx hb dX10_depthOf_52 rfl ?_
        refine lv_iadd hx hb dX10_depthOf_53 ?_
        refine lv_topi (fun x9 ex9 => ?_)
        obtain rfl : x9 = iZ (n + 0) := ex9.trans (iZ_add _ _)
        refine lv_istore (lv' := [(4, .int (iZ (n + 0))), (5, .int (iZ (k))), (3, .int (iZ (q))), (2, .int (iZ (i))), (1, .int (iZ (t))), (0, .ref h0)]) hx hb dX10_depthOf_54 hl (by decide) rfl (fun ls hl => ?_)
        refine lv_iinc (v := iZ (k + 1)) (lv' := [(5, .int (iZ (k + 1))), (4, .int (iZ (n + 0))), (3, .int (iZ (q))), (2, .int (iZ (i))), (1, .int (iZ (t))), (0, .ref h0)]) hx hb dX10_depthOf_56 hl (k := 1) rfl (iZ_add _ _) (by decide) rfl (fun ls hl => ?_)
        refine lv_goto (tgt := 6) hx hb dX10_depthOf_59 (by decide) ?_
        exact ih (n + 0) (k + 1) μ H locs ls (by rfl) (by (first | ((try clear ex9); (try clear c27_); (try clear hx4); (try clear hx3); (try clear hx2); (try clear hx1); (try clear hx9); (try clear hT3); (try clear hT2); (try clear hT1); (try clear hm9); (try clear hn); (try clear hm); (try clear hexit62); (try clear hi); (try clear ht); (try clear hRs); (try clear hRc); (try clear hRl); (try clear hRf); omega) | omega)) (by (first | ((try clear ex9); (try clear c27_); (try clear hx4); (try clear hx3); (try clear hx2); (try clear hx1); (try clear hx9); (try clear c9_); (try clear hT3); (try clear hT2); (try clear hT1); (try clear hm9); (try clear hk); (try clear hm); (try clear hexit62); (try clear hi); (try clear ht); (try clear hRs); (try clear hRc); (try clear hRl); (try clear hRf); omega) | omega)) (by (first | ((try clear ex9); (try clear c27_); (try clear hx2); (try clear hx1); (try clear hx9); (try clear hT3); (try clear hn); (try clear hm); (try clear hexit62); (try clear ht); (try clear hRs); (try clear hRc); (try clear hRl); (try clear hRf); omega) | omega)) hP hS (lv_sub hl [0, 1, 2, 3, 4, 5] rfl)
      · refine lv_iload_n hx hb dX10_depthOf_30 rfl (lv_at hl 2 rfl) ?_
        refine lv_iconst (v := iZ (-1)) hx hb dX10_depthOf_31 rfl ?_
        refine fz_icmp_eq (tgt := 48) (by first | exact hq | (constructor <;> omega)) (by decide) hx hb dX10_depthOf_32 (by decide) (fun c32_ => ?_) (fun c32_ => ?_)
        · refine lv_iconst (v := iZ 1) hx hb dX10_depthOf_48 rfl ?_
          refine lv_goto (tgt := 53) hx hb dX10_depthOf_49 (by decide) ?_
          refine lv_iadd hx hb dX10_depthOf_53 ?_
          refine lv_topi (fun x9 ex9 => ?_)
          obtain rfl : x9 = iZ (n + 1) := ex9.trans (iZ_add _ _)
          refine lv_istore (lv' := [(4, .int (iZ (n + 1))), (5, .int (iZ (k))), (3, .int (iZ (q))), (2, .int (iZ (i))), (1, .int (iZ (t))), (0, .ref h0)]) hx hb dX10_depthOf_54 hl (by decide) rfl (fun ls hl => ?_)
          refine lv_iinc (v := iZ (k + 1)) (lv' := [(5, .int (iZ (k + 1))), (4, .int (iZ (n + 1))), (3, .int (iZ (q))), (2, .int (iZ (i))), (1, .int (iZ (t))), (0, .ref h0)]) hx hb dX10_depthOf_56 hl (k := 1) rfl (iZ_add _ _) (by decide) rfl (fun ls hl => ?_)
          refine lv_goto (tgt := 6) hx hb dX10_depthOf_59 (by decide) ?_
          exact ih (n + 1) (k + 1) μ H locs ls (by rfl) (by (first | ((try clear ex9); (try clear c32_); (try clear c27_); (try clear hx4); (try clear hx3); (try clear hx2); (try clear hx1); (try clear hx9); (try clear hT3); (try clear hT2); (try clear hT1); (try clear hm9); (try clear hn); (try clear hm); (try clear hexit62); (try clear hi); (try clear ht); (try clear hRs); (try clear hRc); (try clear hRl); (try clear hRf); omega) | omega)) (by (first | ((try clear ex9); (try clear c32_); (try clear c27_); (try clear hx4); (try clear hx3); (try clear hx2); (try clear hx1); (try clear hx9); (try clear c9_); (try clear hT3); (try clear hT2); (try clear hT1); (try clear hm9); (try clear hk); (try clear hm); (try clear hexit62); (try clear hi); (try clear ht); (try clear hRs); (try clear hRc); (try clear hRl); (try clear hRf); omega) | omega)) (by (first | ((try clear ex9); (try clear c32_); (try clear c27_); (try clear hx2); (try clear hx1); (try clear hx9); (try clear hT3); (try clear hm); (try clear hexit62); (try clear ht); (try clear hRs); (try clear hRc); (try clear hRl); (try clear hRf); omega) | omega)) hP hS (lv_sub hl [0, 1, 2, 3, 4, 5] rfl)
        · refine lv_aload_n hx hb dX10_depthOf_35 rfl (lv_at hl 5 rfl) ?_
          refine fz_get (D := (dC, dI)) (ci := 10) (v := .ref (h0 + 506)) (C := RX10) (T := TX10) (N := 53) hx hb hts inG10 hown hK hP (k := 0) (by decide) (F := mF h0) mE_obj rfl 18 (by decide) (hts _ k1184) (fun _ h9 => h9) rfl dX10_depthOf_36 ?_
          refine lv_iload_n hx hb dX10_depthOf_39 rfl (lv_at hl 4 rfl) ?_
          refine fz_ald (k := 506) (n := 70) (k2 := (507 + (t).toNat)) hx hb hK hP 2 rfl (by decide) mE_sort rfl ⟨by (first | ((try clear c32_); (try clear c27_); (try clear ex9); (try clear hx4); (try clear hx3); (try clear hx2); (try clear hx1); (try clear hx9); (try clear c9_); (try clear hT3); (try clear hT2); (try clear hT1); (try clear hm9); (try clear hn); (try clear hk); (try clear hm); (try clear hexit62); (try clear hi); (try clear hRs); (try clear hRc); (try clear hRl); (try clear hRf); omega) | omega), by (first | ((try clear c32_); (try clear c27_); (try clear ex9); (try clear hx4); (try clear hx3); (try clear hx2); (try clear hx1); (try clear hx9); (try clear c9_); (try clear hT3); (try clear hT2); (try clear hT1); (try clear hm9); (try clear hn); (try clear hk); (try clear hm); (try clear hexit62); (try clear hi); (try clear hRs); (try clear hRc); (try clear hRl); (try clear hRf); omega) | omega)⟩ (by decide) (if_pos (by (first | ((try clear c32_); (try clear c27_); (try clear ex9); (try clear hx4); (try clear hx3); (try clear hx2); (try clear hx1); (try clear hx9); (try clear c9_); (try clear hT3); (try clear hT2); (try clear hT1); (try clear hm9); (try clear hn); (try clear hk); (try clear hm); (try clear hexit62); (try clear hi); (try clear hRs); (try clear hRc); (try clear hRl); (try clear hRf); omega) | omega))) dX10_depthOf_40 ?_
          refine lv_iload hx hb dX10_depthOf_41 (lv_at hl 0 rfl) ?_
          refine fz_ld (k := (507 + (t).toNat)) (n := 900) hx hb hK hP 0 (by (first | ((try clear c32_); (try clear c27_); (try clear ex9); (try clear hx4); (try clear hx3); (try clear hx2); (try clear hx1); (try clear hx9); (try clear c9_); (try clear hT3); (try clear hT2); (try clear hT1); (try clear hm9); (try clear hn); (try clear hk); (try clear hm); (try clear hexit62); (try clear hi); (try clear hRs); (try clear hRc); (try clear hRl); (try clear hRf); omega) | omega)) (mE_sortR (by (first | ((try clear c32_); (try clear c27_); (try clear ex9); (try clear hx4); (try clear hx3); (try clear hx2); (try clear hx1); (try clear hx9); (try clear c9_); (try clear hT3); (try clear hT2); (try clear hT1); (try clear hm9); (try clear hn); (try clear hk); (try clear hm); (try clear hexit62); (try clear hi); (try clear hRs); (try clear hRc); (try clear hRl); (try clear hRf); omega) | omega))) rfl ⟨by (first | ((try clear c32_); (try clear c27_); (try clear ex9); (try clear hx4); (try clear hx3); (try clear hx2); (try clear hx1); (try clear hx9); (try clear c9_); (try clear hT3); (try clear hT2); (try clear hT1); (try clear hm9); (try clear hn); (try clear hm); (try clear hexit62); (try clear hi); (try clear ht); (try clear hRs); (try clear hRc); (try clear hRl); (try clear hRf); omega) | omega), by (first | ((try clear c32_); (try clear c27_); (try clear ex9); (try clear hx4); (try clear hx3); (try clear hx2); (try clear hx1); (try clear hx9); (try clear hT3); (try clear hm9); (try clear hk); (try clear hm); (try clear hexit62); (try clear ht); (try clear hRs); (try clear hRc); (try clear hRl); (try clear hRf); omega) | omega)⟩ (by decide) dX10_depthOf_43 ?_
          refine lv_iload_n hx hb dX10_depthOf_44 rfl (lv_at hl 2 rfl) ?_
          refine fz_icmp_ne (tgt := 52) (by first | exact hq | (constructor <;> (first | ((try clear c32_); (try clear c27_); (try clear ex9); (try clear hx4); (try clear hx3); (try clear hx2); (try clear hx9); (try clear c9_); (try clear hT3); (try clear hT2); (try clear hT1); (try clear hm9); (try clear hn); (try clear hk); (try clear hm); (try clear hexit62); (try clear hi); (try clear ht); (try clear hRs); (try clear hRc); (try clear hRl); (try clear hRf); omega) | omega))) (by first | exact hq | (constructor <;> omega)) hx hb dX10_depthOf_45 (by decide) (fun c45_ => ?_) (fun c45_ => ?_)
          · refine lv_iconst (v := iZ 0) hx hb dX10_depthOf_52 rfl ?_
            refine lv_iadd hx hb dX10_depthOf_53 ?_
            refine lv_topi (fun x9 ex9 => ?_)
            obtain rfl : x9 = iZ (n + 0) := ex9.trans (iZ_add _ _)
            refine lv_istore (lv' := [(4, .int (iZ (n + 0))), (5, .int (iZ (k))), (3, .int (iZ (q))), (2, .int (iZ (i))), (1, .int (iZ (t))), (0, .ref h0)]) hx hb dX10_depthOf_54 hl (by decide) rfl (fun ls hl => ?_)
            refine lv_iinc (v := iZ (k + 1)) (lv' := [(5, .int (iZ (k + 1))), (4, .int (iZ (n + 0))), (3, .int (iZ (q))), (2, .int (iZ (i))), (1, .int (iZ (t))), (0, .ref h0)]) hx hb dX10_depthOf_56 hl (k := 1) rfl (iZ_add _ _) (by decide) rfl (fun ls hl => ?_)
            refine lv_goto (tgt := 6) hx hb dX10_depthOf_59 (by decide) ?_
            exact ih (n + 0) (k + 1) μ H locs ls (by rfl) (by (first | ((try clear ex9); (try clear c45_); (try clear c32_); (try clear c27_); (try clear hx4); (try clear hx3); (try clear hx2); (try clear hx1); (try clear hx9); (try clear hT3); (try clear hT2); (try clear hT1); (try clear hm9); (try clear hn); (try clear hm); (try clear hexit62); (try clear hi); (try clear ht); (try clear hRs); (try clear hRc); (try clear hRl); (try clear hRf); omega) | omega)) (by (first | ((try clear ex9); (try clear c45_); (try clear c32_); (try clear c27_); (try clear hx4); (try clear hx3); (try clear hx2); (try clear hx1); (try clear hx9); (try clear c9_); (try clear hT3); (try clear hT2); (try clear hT1); (try clear hm9); (try clear hk); (try clear hm); (try clear hexit62); (try clear hi); (try clear ht); (try clear hRs); (try clear hRc); (try clear hRl); (try clear hRf); omega) | omega)) (by (first | ((try clear ex9); (try clear c27_); (try clear hx2); (try clear hx9); (try clear hT3); (try clear hm); (try clear hexit62); (try clear ht); (try clear hRs); (try clear hRc); (try clear hRl); (try clear hRf); omega) | omega)) hP hS (lv_sub hl [0, 1, 2, 3, 4, 5] rfl)
          · refine lv_iconst (v := iZ 1) hx hb dX10_depthOf_48 rfl ?_
            refine lv_goto (tgt := 53) hx hb dX10_depthOf_49 (by decide) ?_
            refine lv_iadd hx hb dX10_depthOf_53 ?_
            refine lv_topi (fun x9 ex9 => ?_)
            obtain rfl : x9 = iZ (n + 1) := ex9.trans (iZ_add _ _)
            refine lv_istore (lv' := [(4, .int (iZ (n + 1))), (5, .int (iZ (k))), (3, .int (iZ (q))), (2, .int (iZ (i))), (1, .int (iZ (t))), (0, .ref h0)]) hx hb dX10_depthOf_54 hl (by decide) rfl (fun ls hl => ?_)
            refine lv_iinc (v := iZ (k + 1)) (lv' := [(5, .int (iZ (k + 1))), (4, .int (iZ (n + 1))), (3, .int (iZ (q))), (2, .int (iZ (i))), (1, .int (iZ (t))), (0, .ref h0)]) hx hb dX10_depthOf_56 hl (k := 1) rfl (iZ_add _ _) (by decide) rfl (fun ls hl => ?_)
            refine lv_goto (tgt := 6) hx hb dX10_depthOf_59 (by decide) ?_
            exact ih (n + 1) (k + 1) μ H locs ls (by rfl) (by (first | ((try clear ex9); (try clear c45_); (try clear c32_); (try clear c27_); (try clear hx4); (try clear hx3); (try clear hx2); (try clear hx1); (try clear hx9); (try clear hT3); (try clear hT2); (try clear hT1); (try clear hm9); (try clear hn); (try clear hm); (try clear hexit62); (try clear hi); (try clear ht); (try clear hRs); (try clear hRc); (try clear hRl); (try clear hRf); omega) | omega)) (by (first | ((try clear ex9); (try clear c45_); (try clear c32_); (try clear c27_); (try clear hx4); (try clear hx3); (try clear hx2); (try clear hx1); (try clear hx9); (try clear c9_); (try clear hT3); (try clear hT2); (try clear hT1); (try clear hm9); (try clear hk); (try clear hm); (try clear hexit62); (try clear hi); (try clear ht); (try clear hRs); (try clear hRc); (try clear hRl); (try clear hRf); omega) | omega)) (by (first | ((try clear ex9); (try clear c27_); (try clear hx2); (try clear hx9); (try clear hT3); (try clear hm); (try clear hexit62); (try clear ht); (try clear hRs); (try clear hRc); (try clear hRl); (try clear hRf); omega) | omega)) hP hS (lv_sub hl [0, 1, 2, 3, 4, 5] rfl)
set_option maxHeartbeats 4000000 in
set_option maxRecDepth 100000 in
theorem m_depthOf (l : Launch) (dC : Nat → ClassId) (dI : Nat → Nat → Nat) (cI cZ cII cIII : ClassId) (h0 sz : Nat) (μ : va_M) (t : Int) (i : Int) (q : Int) (ht : 0 ≤ t ∧ t < 70) (hT : tok μ t.toNat) (hi : 0 ≤ i ∧ i < μ 719 t.toNat) (hq : inR q) : Met l yX10_depthOf (Cond.code yX10_depthOf cX10_depthOf 6 (some .int) :: wsG) ({ frames := 1, cells := 0, slots := 0, locals := 14 } : Room) (va_Pc [.ref h0, .int (iZ (t)), .int (iZ (i)), .int (iZ (q))] (fun U => U.heap.size = sz ∧ va_P (dC, dI) vwCl (fw (mE cI cZ cII cIII h0) h0 6325 μ) U.heap ∧ va_K (dC, dI) vwCl (mT cI cZ cII cIII) U)) (va_Qi (fun (r9 : Int32) (u : va_M × Int) => r9 = iZ u.2 ∧ (fun (u : va_M) (r : Int) => u = μ ∧ 0 ≤ r ∧ r ≤ 900) u.1 u.2) (fun u t => va_P (dC, dI) vwCl (fw (mE cI cZ cII cIII h0) h0 6325 u.1) t.heap ∧ va_K (dC, dI) vwCl (mT cI cZ cII cIII) t) (fA h0 6325 sz)) 0 0 (fA h0 6325 sz) := by
  refine Met.ofW (cc := cX10_depthOf) (maxL := 6) (ret := (some .int)) (by decide) rfl ?_
  intro p e s m args below meth c s₁ B hml hv
  obtain ⟨rfl, hsz, hP, hK⟩ := hv
  have hx := B.exec
  have hb := B.bytes
  have hr := B.returns
  have hts : ∀ w ∈ wsG, w.before _ s = true := hG_of (atoms_spec (ws := (Cond.code yX10_depthOf cX10_depthOf 6 (some .int) :: wsG)) B.pre)
  have hown : s.vm.findClass RX10 = some m.cls := findClass_of_methodNamed B.named
  have hlocks := B.notSynchronized
  subst hsz
  have hS : va_S (fA h0 6325 s.heap.size) s.heap s.heap [] := va_S.rf
  have hl := lv_entry ([.ref h0, .int (iZ (t)), .int (iZ (i)), .int (iZ (q))]) (n := 6) (Nat.le_of_ble_eq_true rfl)
  rw [lg_entry_eq]
  generalize (lg_sl ([.ref h0, .int (iZ (t)), .int (iZ (i)), .int (iZ (q))]) ++ List.replicate (6 - (lg_sl ([.ref h0, .int (iZ (t)), .int (iZ (i)), .int (iZ (q))])).length) Slot.unset).toArray = ls at hl ⊢
  have hl : lv_has ls 6 [(0, .ref h0), (1, .int (iZ (t))), (2, .int (iZ (i))), (3, .int (iZ (q)))] := hl
  refine lv_iconst (v := iZ 0) hx hb dX10_depthOf_0 rfl ?_
  refine lv_istore (lv' := [(4, .int (iZ (0))), (0, .ref h0), (1, .int (iZ (t))), (2, .int (iZ (i))), (3, .int (iZ (q)))]) hx hb dX10_depthOf_1 hl (by decide) rfl (fun ls hl => ?_)
  refine lv_iconst (v := iZ 0) hx hb dX10_depthOf_3 rfl ?_
  refine lv_istore (lv' := [(5, .int (iZ (0))), (4, .int (iZ (0))), (0, .ref h0), (1, .int (iZ (t))), (2, .int (iZ (i))), (3, .int (iZ (q)))]) hx hb dX10_depthOf_4 hl (by decide) rfl (fun ls hl => ?_)
  refine LX10_depthOf_6 hx hb hml hown hts hK (Nat.le_of_ble_eq_true rfl) (Nat.le_of_ble_eq_true rfl) (Nat.le_of_ble_eq_true rfl) (Nat.le_of_ble_eq_true rfl) (μ) (t) (i) (q) (by assumption) (by assumption) (by assumption) (by assumption) ?_ _ (0) (0) μ s.heap [] ls (by rfl) (by (first | ((try clear hsz); (try clear s₁); (try clear ht); omega) | omega)) (by (first | ((try clear hsz); (try clear s₁); (try clear hi); (try clear ht); omega) | omega)) (Nat.lt_succ_self _) hP hS (lv_sub hl [0, 1, 5, 4, 3, 2] rfl)
  · intro n_1 k_1 μ1_ H locs ls q1_1 q2_1 hP hS hl
    have hl : lv_has ls 6 [(4, .int (iZ (n_1)))] := hl
    refine lv_iload hx hb dX10_depthOf_62 (lv_at hl 0 rfl) ?_
    exact W.iret (v := iZ (n_1)) hx hb hr (fun t9 ht9 hW9 => ⟨⟨iZ (n_1), (μ1_, n_1), rfl, ⟨rfl, (by
                dsimp only
                exact ⟨q1_1, q2_1⟩)⟩, by rw [ht9]; exact hP, va_K.moved hW9.alike hK⟩, hS.F ht9⟩) hS.2.2 dX10_depthOf_64
set_option maxHeartbeats 4000000 in
set_option maxRecDepth 100000 in
theorem LX10_deepest_4 {p : Program} {l : Launch} {e : Env} {R : Room} {s : State} {m : MethodId} {args : Array Value} {below : List Frame} {meth : Method} {c : Code} {cells slots : Nat} {Q : State → Prop} {dC : Nat → ClassId} {dI : Nat → Nat → Nat} {h0 : Nat} {cI cZ cII cIII : ClassId} (hx : p.tables.exec = Jvm.exec) (hb : c.code = cX10_deepest) (hml : c.maxLocals = 4) (hown : s.vm.findClass RX10 = some m.cls) (hts : ∀ w ∈ wsG, w.before args s = true) (hK : va_K (dC, dI) vwCl (mT cI cZ cII cIII) s) (hRf : 2 ≤ R.frames) (hRl : 39 ≤ R.locals) (hRc : cells ≤ R.cells) (hRs : slots ≤ R.slots) (μ0 : va_M) (t : Int) (ht : 0 ≤ t ∧ t < 70) (hT : tok μ0 t.toNat) (hexit46 : ∀ (n : Int) (i : Int) (μ : va_M) (H : Heap) (locs : List Loc) (ls : Array Slot), (μ = μ0) → (0 ≤ n ∧ n ≤ 901) → va_P (dC, dI) vwCl (fw (mE cI cZ cII cIII h0) h0 6325 μ) H → va_S (fA h0 6325 s.heap.size) s.heap H locs → lv_has ls 4 [(2, .int (iZ (n)))] → W p l e R s m args below meth c H locs cells slots Q (F0 m 46 ls [])) :
    ∀ (n9 : Nat) (n : Int) (i : Int) (μ : va_M) (H : Heap) (locs : List Loc) (ls : Array Slot), (μ = μ0) → (0 ≤ i ∧ i ≤ μ0 719 t.toNat) → (0 ≤ n ∧ n ≤ 901) → (1000 - i).toNat < n9 → va_P (dC, dI) vwCl (fw (mE cI cZ cII cIII h0) h0 6325 μ) H → va_S (fA h0 6325 s.heap.size) s.heap H locs → lv_has ls 4 [(3, .int (iZ (i))), (2, .int (iZ (n))), (1, .int (iZ (t))), (0, .ref h0)] → W p l e R s m args below meth c H locs cells slots Q (F0 m 4 ls []) := by
  intro n9
  induction n9 with
  | zero => intro n i μ H locs ls hm hk hn hm9 hP hS hl; exact absurd hm9 (Nat.not_lt_zero _)
  | succ n9 ih =>
    intro n i μ H locs ls hm hk hn hm9 hP hS hl
    subst hm
    have hT0 := hT
    obtain ⟨hT1, hT2, hT3⟩ := hT
    refine lv_iload_n hx hb dX10_deepest_4 rfl (lv_at hl 0 rfl) ?_
    refine lv_aload_n hx hb dX10_deepest_5 rfl (lv_at hl 3 rfl) ?_
    refine fz_get (D := (dC, dI)) (ci := 10) (v := .ref (h0 + 719)) (C := RX10) (T := TX10) (N := 53) hx hb hts inG10 hown hK hP (k := 0) (by decide) (F := mF h0) mE_obj rfl 21 (by decide) (hts _ k1187) (fun _ h9 => h9) rfl dX10_deepest_6 ?_
    refine lv_iload_n hx hb dX10_deepest_9 rfl (lv_at hl 2 rfl) ?_
    refine fz_ld (k := 719) (n := 70) hx hb hK hP 0 (by decide) mE_nodes rfl ⟨by (first | ((try clear hT3); (try clear hT2); (try clear hT1); (try clear hT0); (try clear hm9); (try clear hn); (try clear hk); (try clear hm); (try clear hexit46); (try clear hRs); (try clear hRc); (try clear hRl); (try clear hRf); omega) | omega), by (first | ((try clear hT3); (try clear hT2); (try clear hT1); (try clear hT0); (try clear hm9); (try clear hn); (try clear hk); (try clear hm); (try clear hexit46); (try clear hRs); (try clear hRc); (try clear hRl); (try clear hRf); omega) | omega)⟩ (by decide) dX10_deepest_10 ?_
    refine fz_icmp_ge (tgt := 46) (by constructor <;> (first | ((try clear hT3); (try clear hT0); (try clear hm9); (try clear hn); (try clear hm); (try clear hexit46); (try clear ht); (try clear hRs); (try clear hRc); (try clear hRl); (try clear hRf); omega) | omega)) (by constructor <;> (first | ((try clear hT3); (try clear hT0); (try clear hm9); (try clear hn); (try clear hk); (try clear hm); (try clear hexit46); (try clear ht); (try clear hRs); (try clear hRc); (try clear hRl); (try clear hRf); omega) | omega)) hx hb dX10_deepest_11 (by decide) (fun c11_ => ?_) (fun c11_ => ?_)
    · exact hexit46 (n) (i) μ H locs ls (by rfl) (by (first | ((try clear c11_); (try clear hT3); (try clear hT2); (try clear hT1); (try clear hT0); (try clear hm9); (try clear hk); (try clear hm); (try clear hexit46); (try clear ht); (try clear hRs); (try clear hRc); (try clear hRl); (try clear hRf); omega) | omega)) hP hS (lv_sub hl [1] rfl)
    · have hx9 := hT3 i.toNat (by (first | ((try clear hx9); (try clear hT3); (try clear hT0); (try clear hm9); (try clear hn); (try clear hm); (try clear hexit46); (try clear ht); (try clear hRs); (try clear hRc); (try clear hRl); (try clear hRf); omega) | omega))
      obtain ⟨hx1, hx2, hx3, hx4⟩ := hx9
      refine lv_aload_n hx hb dX10_deepest_14 rfl (lv_at hl 3 rfl) ?_
      refine fz_get (D := (dC, dI)) (ci := 10) (v := .ref (h0 + 506)) (C := RX10) (T := TX10) (N := 53) hx hb hts inG10 hown hK hP (k := 0) (by decide) (F := mF h0) mE_obj rfl 18 (by decide) (hts _ k1184) (fun _ h9 => h9) rfl dX10_deepest_15 ?_
      refine lv_iload_n hx hb dX10_deepest_18 rfl (lv_at hl 2 rfl) ?_
      refine fz_ald (k := 506) (n := 70) (k2 := (507 + (t).toNat)) hx hb hK hP 2 rfl (by decide) mE_sort rfl ⟨by (first | ((try clear hx4); (try clear hx3); (try clear hx2); (try clear hx1); (try clear hx9); (try clear c11_); (try clear hT3); (try clear hT2); (try clear hT1); (try clear hT0); (try clear hm9); (try clear hn); (try clear hk); (try clear hm); (try clear hexit46); (try clear hRs); (try clear hRc); (try clear hRl); (try clear hRf); omega) | omega), by (first | ((try clear hx4); (try clear hx3); (try clear hx2); (try clear hx1); (try clear hx9); (try clear c11_); (try clear hT3); (try clear hT2); (try clear hT1); (try clear hT0); (try clear hm9); (try clear hn); (try clear hk); (try clear hm); (try clear hexit46); (try clear hRs); (try clear hRc); (try clear hRl); (try clear hRf); omega) | omega)⟩ (by decide) (if_pos (by (first | ((try clear hx4); (try clear hx3); (try clear hx2); (try clear hx1); (try clear hx9); (try clear c11_); (try clear hT3); (try clear hT2); (try clear hT1); (try clear hT0); (try clear hm9); (try clear hn); (try clear hk); (try clear hm); (try clear hexit46); (try clear hRs); (try clear hRc); (try clear hRl); (try clear hRf); omega) | omega))) dX10_deepest_19 ?_
      refine lv_iload_n hx hb dX10_deepest_20 rfl (lv_at hl 0 rfl) ?_
      refine fz_ld (k := (507 + (t).toNat)) (n := 900) hx hb hK hP 0 (by (first | ((try clear hx4); (try clear hx3); (try clear hx2); (try clear hx1); (try clear hx9); (try clear c11_); (try clear hT3); (try clear hT2); (try clear hT1); (try clear hT0); (try clear hm9); (try clear hn); (try clear hk); (try clear hm); (try clear hexit46); (try clear hRs); (try clear hRc); (try clear hRl); (try clear hRf); omega) | omega)) (mE_sortR (by (first | ((try clear hx4); (try clear hx3); (try clear hx2); (try clear hx1); (try clear hx9); (try clear c11_); (try clear hT3); (try clear hT2); (try clear hT1); (try clear hT0); (try clear hm9); (try clear hn); (try clear hk); (try clear hm); (try clear hexit46); (try clear hRs); (try clear hRc); (try clear hRl); (try clear hRf); omega) | omega))) rfl ⟨by (first | ((try clear hx4); (try clear hx3); (try clear hx2); (try clear hx1); (try clear hx9); (try clear c11_); (try clear hT3); (try clear hT2); (try clear hT1); (try clear hT0); (try clear hm9); (try clear hn); (try clear hm); (try clear hexit46); (try clear ht); (try clear hRs); (try clear hRc); (try clear hRl); (try clear hRf); omega) | omega), by (first | ((try clear hx4); (try clear hx3); (try clear hx2); (try clear hx1); (try clear hx9); (try clear hT3); (try clear hT0); (try clear hm9); (try clear hn); (try clear hk); (try clear hm); (try clear hexit46); (try clear ht); (try clear hRs); (try clear hRc); (try clear hRl); (try clear hRf); omega) | omega)⟩ (by decide) dX10_deepest_21 ?_
      refine lv_iconst (v := iZ 4) hx hb dX10_deepest_22 rfl ?_
      refine fz_icmp_ne (tgt := 40) (by constructor <;> (first | ((try clear hx4); (try clear hx3); (try clear hx2); (try clear hx9); (try clear c11_); (try clear hT3); (try clear hT2); (try clear hT1); (try clear hT0); (try clear hm9); (try clear hn); (try clear hk); (try clear hm); (try clear hexit46); (try clear ht); (try clear hRs); (try clear hRc); (try clear hRl); (try clear hRf); omega) | omega)) (by decide) hx hb dX10_deepest_23 (by decide) (fun c23_ => ?_) (fun c23_ => ?_)
      · refine lv_iinc (v := iZ (i + 1)) (lv' := [(3, .int (iZ (i + 1))), (2, .int (iZ (n))), (1, .int (iZ (t))), (0, .ref h0)]) hx hb dX10_deepest_40 hl (k := 0) rfl (iZ_add _ _) (by decide) rfl (fun ls hl => ?_)
        refine lv_goto (tgt := 4) hx hb dX10_deepest_43 (by decide) ?_
        exact ih (n) (i + 1) μ H locs ls (by rfl) (by (first | ((try clear c23_); (try clear hx4); (try clear hx3); (try clear hx2); (try clear hx1); (try clear hx9); (try clear hT3); (try clear hT2); (try clear hT1); (try clear hT0); (try clear hm9); (try clear hn); (try clear hm); (try clear hexit46); (try clear ht); (try clear hRs); (try clear hRc); (try clear hRl); (try clear hRf); omega) | omega)) (by first | (first | ((try clear c23_); (try clear hx4); (try clear hx3); (try clear hx2); (try clear hx1); (try clear hx9); (try clear c11_); (try clear hT3); (try clear hT2); (try clear hT1); (try clear hT0); (try clear hm9); (try clear hk); (try clear hm); (try clear hexit46); (try clear ht); (try clear hRs); (try clear hRc); (try clear hRl); (try clear hRf); omega) | omega) | (rw [h?]; omega) | (have h9 := h?; split at h9 <;> omega)) (by (first | ((try clear hx4); (try clear hx3); (try clear hx2); (try clear hx9); (try clear hT3); (try clear hT0); (try clear hn); (try clear hm); (try clear hexit46); (try clear ht); (try clear hRs); (try clear hRc); (try clear hRl); (try clear hRf); omega) | omega)) hP hS (lv_sub hl [0, 1, 2, 3] rfl)
      · refine lv_iload_n hx hb dX10_deepest_26 rfl (lv_at hl 1 rfl) ?_
        refine lv_iconst (v := iZ 1) hx hb dX10_deepest_27 rfl ?_
        refine lv_aload_n hx hb dX10_deepest_28 rfl (lv_at hl 3 rfl) ?_
        refine lv_iload_n hx hb dX10_deepest_29 rfl (lv_at hl 2 rfl) ?_
        refine lv_iload_n hx hb dX10_deepest_30 rfl (lv_at hl 0 rfl) ?_
        refine lv_iconst (v := iZ 4) hx hb dX10_deepest_31 rfl ?_
        refine va_calli (va_runV (As := [.int (iZ (t)), .int (iZ (i)), .int (iZ (4))]) (rest := [.int (iZ (1)), .int (iZ (n))]) ⟨hx, hb, hml, hown, hts⟩ (m_depthOf l dC dI cI cZ cII cIII h0 H.size μ (t) (i) (4) (by first | assumption | omega | exact ⟨by omega, by omega⟩) (by exact hT0) (by first | assumption | (first | ((try clear c23_); (try clear hx4); (try clear hx3); (try clear hx2); (try clear hx1); (try clear hx9); (try clear hT3); (try clear hT2); (try clear hT1); (try clear hT0); (try clear hm9); (try clear hn); (try clear hm); (try clear hexit46); (try clear ht); (try clear hRs); (try clear hRc); (try clear hRl); (try clear hRf); omega) | omega) | exact ⟨by omega, by omega⟩) (by constructor <;> decide)) (cwV 3 hts (gV_G k1596 k1598 ks_yX10_depthOf k13 k1599) rfl rfl rfl (by decide +kernel) ⟨by show 1 + 1 ≤ _; (first | ((try clear c23_); (try clear hx4); (try clear hx3); (try clear hx2); (try clear hx1); (try clear hx9); (try clear c11_); (try clear hT3); (try clear hT2); (try clear hT1); (try clear hT0); (try clear hm9); (try clear hn); (try clear hk); (try clear hm); (try clear hexit46); (try clear ht); (try clear hRs); (try clear hRc); (try clear hRl); omega) | omega), by show 8 + (6 + 11) + (14) ≤ _; (first | ((try clear c23_); (try clear hx4); (try clear hx3); (try clear hx2); (try clear hx1); (try clear hx9); (try clear c11_); (try clear hT3); (try clear hT2); (try clear hT1); (try clear hT0); (try clear hm9); (try clear hn); (try clear hk); (try clear hm); (try clear hexit46); (try clear ht); (try clear hRs); (try clear hRc); (try clear hRf); omega) | omega)⟩) ⟨fun a U g mk q => by obtain ⟨q0, q1, qP, qK⟩ := q; exact ⟨q0, q1, qP, va_K.moved (u := U) (U := U.calling g mk a) (Vm.Alike.refl U.vm) qK⟩, va_recv hK hP (ci := 10) (q0 := 0) rfl ((fw_get (by decide)).trans (by rw [mE_obj]; rfl)), fun U hU hW => ⟨rfl, by rw [hU], by rw [hU]; exact hP, va_K.moved hW.alike hK⟩⟩ rfl rfl hl.1 rfl (lv_room (Nat.le_of_ble_eq_true rfl)) dX10_deepest_32 ⟨hRc, hRs⟩) hS (fun q _ h => fA_le hS.1 q h) (fA_le hS.1) (fun r9 u9 t9 H1 locs ht9 hvm9 hw9 hB9 hz9 hk9 hS => ?_)
        obtain ⟨μ1, r2⟩ := u9
        obtain ⟨hP, -⟩ := hB9
        rw [ht9] at hP
        generalize H1 = H at hP hS ⊢
        obtain ⟨e9, hw9⟩ := hw9
        have e9 : r9 = iZ r2 := e9
        subst e9
        simp only at hP hw9
        have hμ1 := hw9; clear hw9
        rw [hμ1.1] at hP; have hμ1 := hμ1.2
        refine lv_iadd hx hb dX10_deepest_35 ?_
        refine lv_topi (fun x9 ex9 => ?_)
        obtain rfl : x9 = iZ (1 + r2) := ex9.trans (iZ_add _ _)
        refine va_calli (va_runS (As := [.int (iZ (n)), .int (iZ (1 + r2))]) (rest := []) ⟨hx, hb, hml, hown, hts⟩ (m_more l dC dI cI cZ cII cIII h0 H.size μ (n) (1 + r2) (by constructor <;> (first | ((try clear ex9); (try clear hμ1); (try clear μ1); (try clear hz9); (try clear c23_); (try clear hx4); (try clear hx3); (try clear hx2); (try clear hx1); (try clear hx9); (try clear c11_); (try clear hT3); (try clear hT2); (try clear hT1); (try clear hT0); (try clear hm9); (try clear hk); (try clear hm); (try clear hexit46); (try clear ht); (try clear hRs); (try clear hRc); (try clear hRl); (try clear hRf); omega) | omega)) (by constructor <;> (first | ((try clear ex9); (try clear hμ1); (try clear hz9); (try clear c23_); (try clear hx4); (try clear hx3); (try clear hx2); (try clear hx1); (try clear hx9); (try clear c11_); (try clear hT3); (try clear hT2); (try clear hT1); (try clear hT0); (try clear hm9); (try clear hn); (try clear hk); (try clear hm); (try clear hexit46); (try clear ht); (try clear hRs); (try clear hRc); (try clear hRl); (try clear hRf); omega) | omega))) (cwS 2 hts (gS_G k1600 k1601 k13 k1602) rfl rfl rfl (by decide +kernel) ⟨by show 1 + 1 ≤ _; (first | ((try clear ex9); (try clear hμ1); (try clear r2); (try clear μ1); (try clear hz9); (try clear c23_); (try clear hx4); (try clear hx3); (try clear hx2); (try clear hx1); (try clear hx9); (try clear c11_); (try clear hT3); (try clear hT2); (try clear hT1); (try clear hT0); (try clear hm9); (try clear hn); (try clear hk); (try clear hm); (try clear hexit46); (try clear ht); (try clear hRs); (try clear hRc); (try clear hRl); omega) | omega), by show 8 + (2 + 11) + (14) ≤ _; (first | ((try clear ex9); (try clear hμ1); (try clear μ1); (try clear hz9); (try clear c23_); (try clear hx4); (try clear hx3); (try clear hx2); (try clear hx1); (try clear hx9); (try clear c11_); (try clear hT3); (try clear hT2); (try clear hT1); (try clear hT0); (try clear hm9); (try clear hn); (try clear hk); (try clear hm); (try clear hexit46); (try clear ht); (try clear hRs); (try clear hRc); (try clear hRf); omega) | omega)⟩) ⟨fun a U g mk q => by obtain ⟨q0, q1, qP, qK⟩ := q; exact ⟨q0, q1, qP, va_K.moved (u := U) (U := U.calling g mk a) (Vm.Alike.refl U.vm) qK⟩, fun U hU hW => ⟨rfl, by rw [hU], by rw [hU]; exact hP, va_K.moved hW.alike hK⟩⟩ rfl rfl hl.1 rfl (lv_room (Nat.le_of_ble_eq_true rfl)) dX10_deepest_36 ⟨hRc, hRs⟩) hS (fun q _ h => fA_le hS.1 q h) (fA_le hS.1) (fun r9 u9 t9 H1 locs ht9 hvm9 hw9 hB9 hz9 hk9 hS => ?_)
        obtain ⟨μ3, r4⟩ := u9
        obtain ⟨hP, -⟩ := hB9
        rw [ht9] at hP
        generalize H1 = H at hP hS ⊢
        obtain ⟨e9, hw9⟩ := hw9
        have e9 : r9 = iZ r4 := e9
        subst e9
        simp only at hP hw9
        have hμ3 := hw9; clear hw9
        rw [hμ3.1] at hP; have hμ3 := hμ3.2
        refine lv_istore_n (lv' := [(2, .int (iZ (r4))), (3, .int (iZ (i))), (1, .int (iZ (t))), (0, .ref h0)]) hx hb dX10_deepest_39 rfl hl (by decide) rfl (fun ls hl => ?_)
        refine lv_iinc (v := iZ (i + 1)) (lv' := [(3, .int (iZ (i + 1))), (2, .int (iZ (r4))), (1, .int (iZ (t))), (0, .ref h0)]) hx hb dX10_deepest_40 hl (k := 1) rfl (iZ_add _ _) (by decide) rfl (fun ls hl => ?_)
        refine lv_goto (tgt := 4) hx hb dX10_deepest_43 (by decide) ?_
        exact ih (r4) (i + 1) μ H locs ls (by rfl) (by (first | ((try clear hμ3); (try clear μ3); (try clear hz9); (try clear ex9); (try clear hμ1); (try clear μ1); (try clear c23_); (try clear hx4); (try clear hx3); (try clear hx2); (try clear hx1); (try clear hx9); (try clear hT3); (try clear hT2); (try clear hT1); (try clear hT0); (try clear hm9); (try clear hn); (try clear hm); (try clear hexit46); (try clear ht); (try clear hRs); (try clear hRc); (try clear hRl); (try clear hRf); omega) | omega)) (by first | (first | ((try clear hμ3); (try clear hz9); (try clear ex9); (try clear hμ1); (try clear c23_); (try clear hx4); (try clear hx3); (try clear hx2); (try clear hx1); (try clear hx9); (try clear c11_); (try clear hT3); (try clear hT2); (try clear hT1); (try clear hT0); (try clear hm9); (try clear hk); (try clear hm); (try clear hexit46); (try clear ht); (try clear hRs); (try clear hRc); (try clear hRl); (try clear hRf); omega) | omega) | (rw [hμ3]; omega) | (have h9 := hμ3; split at h9 <;> omega)) (by (first | ((try clear hμ3); (try clear μ3); (try clear hz9); (try clear ex9); (try clear hμ1); (try clear μ1); (try clear c23_); (try clear hx4); (try clear hx3); (try clear hx2); (try clear hx1); (try clear hx9); (try clear hT3); (try clear hT0); (try clear hn); (try clear hm); (try clear hexit46); (try clear ht); (try clear hRs); (try clear hRc); (try clear hRl); (try clear hRf); omega) | omega)) hP hS (lv_sub hl [0, 1, 2, 3] rfl)
set_option maxHeartbeats 4000000 in
set_option maxRecDepth 100000 in
theorem m_deepest (l : Launch) (dC : Nat → ClassId) (dI : Nat → Nat → Nat) (cI cZ cII cIII : ClassId) (h0 sz : Nat) (μ : va_M) (t : Int) (ht : 0 ≤ t ∧ t < 70) (hT : tok μ t.toNat) : Met l yX10_deepest (Cond.code yX10_deepest cX10_deepest 4 (some .int) :: wsG) ({ frames := 2, cells := 0, slots := 0, locals := 39 } : Room) (va_Pc [.ref h0, .int (iZ (t))] (fun U => U.heap.size = sz ∧ va_P (dC, dI) vwCl (fw (mE cI cZ cII cIII h0) h0 6325 μ) U.heap ∧ va_K (dC, dI) vwCl (mT cI cZ cII cIII) U)) (va_Qi (fun (r9 : Int32) (u : va_M × Int) => r9 = iZ u.2 ∧ (fun (u : va_M) (r : Int) => u = μ ∧ 0 ≤ r ∧ r ≤ 901) u.1 u.2) (fun u t => va_P (dC, dI) vwCl (fw (mE cI cZ cII cIII h0) h0 6325 u.1) t.heap ∧ va_K (dC, dI) vwCl (mT cI cZ cII cIII) t) (fA h0 6325 sz)) 0 0 (fA h0 6325 sz) := by
  refine Met.ofW (cc := cX10_deepest) (maxL := 4) (ret := (some .int)) (by decide) rfl ?_
  intro p e s m args below meth c s₁ B hml hv
  obtain ⟨rfl, hsz, hP, hK⟩ := hv
  have hx := B.exec
  have hb := B.bytes
  have hr := B.returns
  have hts : ∀ w ∈ wsG, w.before _ s = true := hG_of (atoms_spec (ws := (Cond.code yX10_deepest cX10_deepest 4 (some .int) :: wsG)) B.pre)
  have hown : s.vm.findClass RX10 = some m.cls := findClass_of_methodNamed B.named
  have hlocks := B.notSynchronized
  subst hsz
  have hS : va_S (fA h0 6325 s.heap.size) s.heap s.heap [] := va_S.rf
  have hl := lv_entry ([.ref h0, .int (iZ (t))]) (n := 4) (Nat.le_of_ble_eq_true rfl)
  rw [lg_entry_eq]
  generalize (lg_sl ([.ref h0, .int (iZ (t))]) ++ List.replicate (4 - (lg_sl ([.ref h0, .int (iZ (t))])).length) Slot.unset).toArray = ls at hl ⊢
  have hl : lv_has ls 4 [(0, .ref h0), (1, .int (iZ (t)))] := hl
  refine lv_iconst (v := iZ 0) hx hb dX10_deepest_0 rfl ?_
  refine lv_istore_n (lv' := [(2, .int (iZ (0))), (0, .ref h0), (1, .int (iZ (t)))]) hx hb dX10_deepest_1 rfl hl (by decide) rfl (fun ls hl => ?_)
  refine lv_iconst (v := iZ 0) hx hb dX10_deepest_2 rfl ?_
  refine lv_istore_n (lv' := [(3, .int (iZ (0))), (2, .int (iZ (0))), (0, .ref h0), (1, .int (iZ (t)))]) hx hb dX10_deepest_3 rfl hl (by decide) rfl (fun ls hl => ?_)
  refine LX10_deepest_4 hx hb hml hown hts hK (Nat.le_of_ble_eq_true rfl) (Nat.le_of_ble_eq_true rfl) (Nat.le_of_ble_eq_true rfl) (Nat.le_of_ble_eq_true rfl) (μ) (t) (by assumption) (by assumption) ?_ _ (0) (0) μ s.heap [] ls (by rfl) (by have h9 := hT.1; (first | ((try clear hsz); (try clear s₁); (try clear ht); omega) | omega)) (by (first | ((try clear hsz); (try clear s₁); (try clear ht); omega) | omega)) (Nat.lt_succ_self _) hP hS (lv_sub hl [0, 1, 3, 2] rfl)
  · intro n_5 i_5 μ5_ H locs ls q1_5 q2_5 hP hS hl
    have hl : lv_has ls 4 [(2, .int (iZ (n_5)))] := hl
    refine lv_iload_n hx hb dX10_deepest_46 rfl (lv_at hl 0 rfl) ?_
    exact W.iret (v := iZ (n_5)) hx hb hr (fun t9 ht9 hW9 => ⟨⟨iZ (n_5), (μ5_, n_5), rfl, ⟨rfl, (by
                dsimp only
                exact ⟨q1_5, q2_5⟩)⟩, by rw [ht9]; exact hP, va_K.moved hW9.alike hK⟩, hS.F ht9⟩) hS.2.2 dX10_deepest_47
set_option maxHeartbeats 4000000 in
set_option maxRecDepth 100000 in
theorem LX10_letter_29 {p : Program} {l : Launch} {e : Env} {R : Room} {s : State} {m : MethodId} {args : Array Value} {below : List Frame} {meth : Method} {c : Code} {cells slots : Nat} {Q : State → Prop} {dC : Nat → ClassId} {dI : Nat → Nat → Nat} {h0 : Nat} {cI cZ cII cIII : ClassId} (hx : p.tables.exec = Jvm.exec) (hb : c.code = cX10_letter) (hml : c.maxLocals = 5) (hown : s.vm.findClass RX10 = some m.cls) (hts : ∀ w ∈ wsG, w.before args s = true) (hK : va_K (dC, dI) vwCl (mT cI cZ cII cIII) s) (hRf : 1 ≤ R.frames) (hRl : 14 ≤ R.locals) (hRc : cells ≤ R.cells) (hRs : slots ≤ R.slots) (μ0 : va_M) (k : Int) (i : Int) (hi : 0 ≤ i ∧ i ≤ 6) (hexit46 : ∀ (v9 : Int) (n : Int) (μ : va_M) (H : Heap) (locs : List Loc) (ls : Array Slot), (μ = μ0) → (0 ≤ v9 ∧ v9 < 387420489) → va_P (dC, dI) vwCl (fw (mE cI cZ cII cIII h0) h0 6325 μ) H → va_S (fA h0 6325 s.heap.size) s.heap H locs → lv_has ls 5 [(3, .int (iZ (v9)))] → W p l e R s m args below meth c H locs cells slots Q (F0 m 46 ls [])) :
    ∀ (n9 : Nat) (v9 : Int) (n : Int) (μ : va_M) (H : Heap) (locs : List Loc) (ls : Array Slot), (μ = μ0) → (-1 ≤ n ∧ n ≤ 6) → (0 ≤ v9 ∧ v9 < 387420489) → (n + 2).toNat < n9 → va_P (dC, dI) vwCl (fw (mE cI cZ cII cIII h0) h0 6325 μ) H → va_S (fA h0 6325 s.heap.size) s.heap H locs → lv_has ls 5 [(4, .int (iZ (n))), (3, .int (iZ (v9))), (2, .int (iZ (i))), (1, .int (iZ (k))), (0, .ref h0)] → W p l e R s m args below meth c H locs cells slots Q (F0 m 29 ls []) := by
  intro n9
  induction n9 with
  | zero => intro v9 n μ H locs ls hm hn hv hm9 hP hS hl; exact absurd hm9 (Nat.not_lt_zero _)
  | succ n9 ih =>
    intro v9 n μ H locs ls hm hn hv hm9 hP hS hl
    subst hm
    refine lv_iload hx hb dX10_letter_29 (lv_at hl 0 rfl) ?_
    refine lv_iload_n hx hb dX10_letter_31 rfl (lv_at hl 2 rfl) ?_
    refine fz_icmp_le (tgt := 46) (by constructor <;> (first | ((try clear hm9); (try clear hm); (try clear hexit46); (try clear hi); (try clear hRs); (try clear hRc); (try clear hRl); (try clear hRf); omega) | omega)) (by constructor <;> (first | ((try clear hm9); (try clear hn); (try clear hm); (try clear hexit46); (try clear hRs); (try clear hRc); (try clear hRl); (try clear hRf); omega) | omega)) hx hb dX10_letter_32 (by decide) (fun c32_ => ?_) (fun c32_ => ?_)
    · exact hexit46 (v9) (n) μ H locs ls (by rfl) (by (first | ((try clear c32_); (try clear hm9); (try clear hn); (try clear hm); (try clear hexit46); (try clear hi); (try clear hRs); (try clear hRc); (try clear hRl); (try clear hRf); omega) | omega)) hP hS (lv_sub hl [1] rfl)
    · refine lv_iload_n hx hb dX10_letter_35 rfl (lv_at hl 1 rfl) ?_
      refine lv_bipush (v := iZ 27) hx hb dX10_letter_36 rfl ?_
      refine lv_idiv hx hb dX10_letter_38 (by decide +kernel) ?_
      refine lv_topi (fun x9 ex9 => ?_)
      obtain rfl : x9 = iZ (v9 / 27) := ex9.trans (iZ_divP (by constructor <;> (first | ((try clear ex9); (try clear c32_); (try clear hm9); (try clear hn); (try clear hm); (try clear hexit46); (try clear hi); (try clear hRs); (try clear hRc); (try clear hRl); (try clear hRf); omega) | omega)) (by decide) (by (first | ((try clear ex9); (try clear c32_); (try clear hm9); (try clear hn); (try clear hm); (try clear hexit46); (try clear hi); (try clear hRs); (try clear hRc); (try clear hRl); (try clear hRf); omega) | omega)) (by (first | ((try clear ex9); (try clear c32_); (try clear hm9); (try clear hn); (try clear hm); (try clear hexit46); (try clear hi); (try clear hRs); (try clear hRc); (try clear hRl); (try clear hRf); omega) | omega)))
      refine lv_istore_n (lv' := [(3, .int (iZ (v9 / 27))), (4, .int (iZ (n))), (2, .int (iZ (i))), (1, .int (iZ (k))), (0, .ref h0)]) hx hb dX10_letter_39 rfl hl (by decide) rfl (fun ls hl => ?_)
      refine lv_iinc (v := iZ (n - 1)) (lv' := [(4, .int (iZ (n - 1))), (3, .int (iZ (v9 / 27))), (2, .int (iZ (i))), (1, .int (iZ (k))), (0, .ref h0)]) hx hb dX10_letter_40 hl (k := 1) rfl (iZ_add _ (-1)) (by decide) rfl (fun ls hl => ?_)
      refine lv_goto (tgt := 29) hx hb dX10_letter_43 (by decide) ?_
      exact ih (v9 / 27) (n - 1) μ H locs ls (by rfl) (by (first | ((try clear ex9); (try clear hm9); (try clear hm); (try clear hexit46); (try clear hRs); (try clear hRc); (try clear hRl); (try clear hRf); omega) | omega)) (by (first | ((try clear ex9); (try clear c32_); (try clear hm9); (try clear hn); (try clear hm); (try clear hexit46); (try clear hi); (try clear hRs); (try clear hRc); (try clear hRl); (try clear hRf); omega) | omega)) (by (first | ((try clear ex9); (try clear hm); (try clear hexit46); (try clear hRs); (try clear hRc); (try clear hRl); (try clear hRf); omega) | omega)) hP hS (lv_sub hl [0, 1, 2, 3, 4] rfl)
set_option maxHeartbeats 4000000 in
set_option maxRecDepth 100000 in
theorem m_letter (l : Launch) (dC : Nat → ClassId) (dI : Nat → Nat → Nat) (cI cZ cII cIII : ClassId) (h0 sz : Nat) (μ : va_M) (k : Int) (i : Int) (hk : 0 ≤ k ∧ k < 200) (hi : 0 ≤ i ∧ i ≤ 6) (h4 : 0 ≤ μ 4 k.toNat ∧ μ 4 k.toNat < 387420489) (h5 : 0 ≤ μ 5 k.toNat ∧ μ 5 k.toNat ≤ 6) : Met l yX10_letter (Cond.code yX10_letter cX10_letter 5 (some .int) :: wsG) ({ frames := 1, cells := 0, slots := 0, locals := 14 } : Room) (va_Pc [.ref h0, .int (iZ (k)), .int (iZ (i))] (fun U => U.heap.size = sz ∧ va_P (dC, dI) vwCl (fw (mE cI cZ cII cIII h0) h0 6325 μ) U.heap ∧ va_K (dC, dI) vwCl (mT cI cZ cII cIII) U)) (va_Qi (fun (r9 : Int32) (u : va_M × Int) => r9 = iZ u.2 ∧ (fun (u : va_M) (r : Int) => u = μ) u.1 u.2) (fun u t => va_P (dC, dI) vwCl (fw (mE cI cZ cII cIII h0) h0 6325 u.1) t.heap ∧ va_K (dC, dI) vwCl (mT cI cZ cII cIII) t) (fA h0 6325 sz)) 0 0 (fA h0 6325 sz) := by
  refine Met.ofW (cc := cX10_letter) (maxL := 5) (ret := (some .int)) (by decide) rfl ?_
  intro p e s m args below meth c s₁ B hml hv
  obtain ⟨rfl, hsz, hP, hK⟩ := hv
  have hx := B.exec
  have hb := B.bytes
  have hr := B.returns
  have hts : ∀ w ∈ wsG, w.before _ s = true := hG_of (atoms_spec (ws := (Cond.code yX10_letter cX10_letter 5 (some .int) :: wsG)) B.pre)
  have hown : s.vm.findClass RX10 = some m.cls := findClass_of_methodNamed B.named
  have hlocks := B.notSynchronized
  subst hsz
  have hS : va_S (fA h0 6325 s.heap.size) s.heap s.heap [] := va_S.rf
  have hl := lv_entry ([.ref h0, .int (iZ (k)), .int (iZ (i))]) (n := 5) (Nat.le_of_ble_eq_true rfl)
  rw [lg_entry_eq]
  generalize (lg_sl ([.ref h0, .int (iZ (k)), .int (iZ (i))]) ++ List.replicate (5 - (lg_sl ([.ref h0, .int (iZ (k)), .int (iZ (i))])).length) Slot.unset).toArray = ls at hl ⊢
  have hl : lv_has ls 5 [(0, .ref h0), (1, .int (iZ (k))), (2, .int (iZ (i)))] := hl
  refine lv_iload_n hx hb dX10_letter_0 rfl (lv_at hl 2 rfl) ?_
  refine lv_aload_n hx hb dX10_letter_1 rfl (lv_at hl 0 rfl) ?_
  refine fz_get (D := (dC, dI)) (ci := 10) (v := .ref (h0 + 5)) (C := RX10) (T := TX10) (N := 53) hx hb hts inG10 hown hK hP (k := 0) (by decide) (F := mF h0) mE_obj rfl 13 (by decide) (hts _ k1179) (fun _ h9 => h9) rfl dX10_letter_2 ?_
  refine lv_iload_n hx hb dX10_letter_5 rfl (lv_at hl 1 rfl) ?_
  refine fz_ld (k := 5) (n := 201) hx hb hK hP 0 (by decide) mE_tokenLong rfl ⟨by (first | ((try clear hsz); (try clear s₁); (try clear h5); (try clear h4); (try clear hi); omega) | omega), by (first | ((try clear hsz); (try clear s₁); (try clear h5); (try clear h4); (try clear hi); omega) | omega)⟩ (by decide) dX10_letter_6 ?_
  refine fz_icmp_lt (tgt := 12) (by constructor <;> (first | ((try clear hsz); (try clear s₁); (try clear h5); (try clear h4); (try clear hk); omega) | omega)) (by constructor <;> (first | ((try clear hsz); (try clear s₁); (try clear h4); (try clear hi); (try clear hk); omega) | omega)) hx hb dX10_letter_7 (by decide) (fun c7_ => ?_) (fun c7_ => ?_)
  · refine lv_aload_n hx hb dX10_letter_12 rfl (lv_at hl 0 rfl) ?_
    refine fz_get (D := (dC, dI)) (ci := 10) (v := .ref (h0 + 4)) (C := RX10) (T := TX10) (N := 53) hx hb hts inG10 hown hK hP (k := 0) (by decide) (F := mF h0) mE_obj rfl 12 (by decide) (hts _ k1178) (fun _ h9 => h9) rfl dX10_letter_13 ?_
    refine lv_iload_n hx hb dX10_letter_16 rfl (lv_at hl 1 rfl) ?_
    refine fz_ld (k := 4) (n := 201) hx hb hK hP 0 (by decide) mE_tokenLetters rfl ⟨by (first | ((try clear c7_); (try clear hsz); (try clear s₁); (try clear h5); (try clear h4); (try clear hi); omega) | omega), by (first | ((try clear c7_); (try clear hsz); (try clear s₁); (try clear h5); (try clear h4); (try clear hi); omega) | omega)⟩ (by decide) dX10_letter_17 ?_
    refine lv_istore_n (lv' := [(3, .int (iZ (μ 4 (k).toNat))), (0, .ref h0), (1, .int (iZ (k))), (2, .int (iZ (i)))]) hx hb dX10_letter_18 rfl hl (by decide) rfl (fun ls hl => ?_)
    refine lv_aload_n hx hb dX10_letter_19 rfl (lv_at hl 1 rfl) ?_
    refine fz_get (D := (dC, dI)) (ci := 10) (v := .ref (h0 + 5)) (C := RX10) (T := TX10) (N := 53) hx hb hts inG10 hown hK hP (k := 0) (by decide) (F := mF h0) mE_obj rfl 13 (by decide) (hts _ k1179) (fun _ h9 => h9) rfl dX10_letter_20 ?_
    refine lv_iload_n hx hb dX10_letter_23 rfl (lv_at hl 2 rfl) ?_
    refine fz_ld (k := 5) (n := 201) hx hb hK hP 0 (by decide) mE_tokenLong rfl ⟨by (first | ((try clear c7_); (try clear hsz); (try clear s₁); (try clear h5); (try clear h4); (try clear hi); omega) | omega), by (first | ((try clear c7_); (try clear hsz); (try clear s₁); (try clear h5); (try clear h4); (try clear hi); omega) | omega)⟩ (by decide) dX10_letter_24 ?_
    refine lv_iconst (v := iZ 1) hx hb dX10_letter_25 rfl ?_
    refine lv_isub hx hb dX10_letter_26 ?_
    refine lv_topi (fun x9 ex9 => ?_)
    obtain rfl : x9 = iZ ((μ 5 (k).toNat) - 1) := ex9.trans (iZ_sub _ _)
    refine lv_istore (lv' := [(4, .int (iZ ((μ 5 (k).toNat) - 1))), (3, .int (iZ (μ 4 (k).toNat))), (0, .ref h0), (1, .int (iZ (k))), (2, .int (iZ (i)))]) hx hb dX10_letter_27 hl (by decide) rfl (fun ls hl => ?_)
    refine LX10_letter_29 hx hb hml hown hts hK (Nat.le_of_ble_eq_true rfl) (Nat.le_of_ble_eq_true rfl) (Nat.le_of_ble_eq_true rfl) (Nat.le_of_ble_eq_true rfl) (μ) (k) (i) (by assumption) ?_ _ (μ 4 (k).toNat) ((μ 5 (k).toNat) - 1) μ s.heap [] ls (by rfl) (by (first | ((try clear ex9); (try clear c7_); (try clear hsz); (try clear s₁); (try clear h4); (try clear hi); (try clear hk); omega) | omega)) (by (first | ((try clear ex9); (try clear c7_); (try clear hsz); (try clear s₁); (try clear h5); (try clear hi); (try clear hk); omega) | omega)) (Nat.lt_succ_self _) hP hS (lv_sub hl [0, 1, 4, 3, 2] rfl)
    · intro v9_1 n_1 μ1_ H locs ls q1_1 q2_1 hP hS hl
      have hl : lv_has ls 5 [(3, .int (iZ (v9_1)))] := hl
      refine lv_iload_n hx hb dX10_letter_46 rfl (lv_at hl 0 rfl) ?_
      refine lv_bipush (v := iZ 27) hx hb dX10_letter_47 rfl ?_
      refine lv_irem hx hb dX10_letter_49 (by decide +kernel) ?_
      refine lv_topi (fun x9 ex9 => ?_)
      obtain rfl : x9 = iZ (v9_1 % 27) := ex9.trans (iZ_remP (by constructor <;> (first | ((try clear ex9); (try clear q1_1); (try clear μ1_); (try clear n_1); (try clear c7_); (try clear hsz); (try clear s₁); (try clear h5); (try clear h4); (try clear hi); (try clear hk); omega) | omega)) (by decide) (by (first | ((try clear ex9); (try clear q1_1); (try clear μ1_); (try clear n_1); (try clear c7_); (try clear hsz); (try clear s₁); (try clear h5); (try clear h4); (try clear hi); (try clear hk); omega) | omega)) (by (first | ((try clear ex9); (try clear q2_1); (try clear q1_1); (try clear μ1_); (try clear n_1); (try clear c7_); (try clear hsz); (try clear s₁); (try clear h5); (try clear h4); (try clear hi); (try clear hk); omega) | omega)))
      refine lv_iconst (v := iZ 1) hx hb dX10_letter_50 rfl ?_
      refine lv_isub hx hb dX10_letter_51 ?_
      refine lv_topi (fun x9 ex9 => ?_)
      obtain rfl : x9 = iZ ((v9_1 % 27) - 1) := ex9.trans (iZ_sub _ _)
      have h9 := Int.emod_nonneg v9_1 (show (27 : Int) ≠ 0 by decide)
      have h8 := Int.emod_lt_of_pos v9_1 (show (0 : Int) < 27 by decide)
      exact W.iret (v := iZ ((v9_1 % 27) - 1)) hx hb hr (fun t9 ht9 hW9 => ⟨⟨iZ ((v9_1 % 27) - 1), (μ1_, (v9_1 % 27) - 1), rfl, ⟨rfl, (by
                    dsimp only
                    exact q1_1)⟩, by rw [ht9]; exact hP, va_K.moved hW9.alike hK⟩, hS.F ht9⟩) hS.2.2 dX10_letter_52
  · refine lv_iconst (v := iZ (-1)) hx hb dX10_letter_10 rfl ?_
    exact W.iret (v := iZ ((-1))) hx hb hr (fun t9 ht9 hW9 => ⟨⟨iZ ((-1)), (μ, (-1)), rfl, ⟨rfl, (by
                dsimp only
                skip)⟩, by rw [ht9]; exact hP, va_K.moved hW9.alike hK⟩, hS.F ht9⟩) hS.2.2 dX10_letter_11

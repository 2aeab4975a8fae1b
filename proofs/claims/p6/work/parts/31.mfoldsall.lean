theorem k1381 : (Cond.methodLink "PageSkeletonModel" (244 : Nat) ({ cls := "PageSkeletonModel", name := "foldsOne", desc := "(I)Z" } : MethodName)) ∈ wsG := wsG_at 1381 (by decide +kernel) (by decide +kernel)
theorem k1383 : (Cond.instanceMethod ({ cls := "PageSkeletonModel", name := "foldsOne", desc := "(I)Z" } : MethodName)) ∈ wsG := wsG_at 1383 (by decide +kernel) (by decide +kernel)
theorem k1384 : (Cond.code ({ cls := "PageSkeletonModel", name := "foldsOne", desc := "(I)Z" } : MethodName) prog_12_method_31_code (7 : Nat) (Option.some FieldType.boolean)) ∈ wsG := wsG_at 1384 (by decide +kernel) (by decide +kernel)
theorem ks_yX10_foldsOne : Cond.selects RX10 yX10_foldsOne yX10_foldsOne ∈ wsG := wsG_mem (by decide +kernel) (by decide +kernel)
theorem dX10_folds_0 : decode cX10_folds 0 = .ok (.bipush 17, 2) := by decide +kernel
theorem dX10_folds_2 : decode cX10_folds 2 = .ok (.iload_n 1, 1) := by decide +kernel
theorem dX10_folds_3 : decode cX10_folds 3 = .ok (.iadd, 1) := by decide +kernel
theorem dX10_folds_4 : decode cX10_folds 4 = .ok (.istore_n 2, 1) := by decide +kernel
theorem dX10_folds_5 : decode cX10_folds 5 = .ok (.aload_n 0, 1) := by decide +kernel
theorem dX10_folds_6 : decode cX10_folds 6 = .ok (.iload_n 2, 1) := by decide +kernel
theorem dX10_folds_7 : decode cX10_folds 7 = .ok (.invokevirtual 197, 3) := by decide +kernel
theorem dX10_folds_10 : decode cX10_folds 10 = .ok (.aload_n 0, 1) := by decide +kernel
theorem dX10_folds_11 : decode cX10_folds 11 = .ok (.getfield 42, 3) := by decide +kernel
theorem dX10_folds_14 : decode cX10_folds 14 = .ok (.iload_n 1, 1) := by decide +kernel
theorem dX10_folds_15 : decode cX10_folds 15 = .ok (.iconst 0, 1) := by decide +kernel
theorem dX10_folds_16 : decode cX10_folds 16 = .ok (.iastore, 1) := by decide +kernel
theorem dX10_folds_17 : decode cX10_folds 17 = .ok (.iconst 0, 1) := by decide +kernel
theorem dX10_folds_18 : decode cX10_folds 18 = .ok (.istore_n 3, 1) := by decide +kernel
theorem dX10_folds_19 : decode cX10_folds 19 = .ok (.iload_n 3, 1) := by decide +kernel
theorem dX10_folds_20 : decode cX10_folds 20 = .ok (.aload_n 0, 1) := by decide +kernel
theorem dX10_folds_21 : decode cX10_folds 21 = .ok (.getfield 34, 3) := by decide +kernel
theorem dX10_folds_24 : decode cX10_folds 24 = .ok (.iload_n 1, 1) := by decide +kernel
theorem dX10_folds_25 : decode cX10_folds 25 = .ok (.iaload, 1) := by decide +kernel
theorem dX10_folds_26 : decode cX10_folds 26 = .ok (.if_icmp .ge 45, 3) := by decide +kernel
theorem dX10_folds_29 : decode cX10_folds 29 = .ok (.aload_n 0, 1) := by decide +kernel
theorem dX10_folds_30 : decode cX10_folds 30 = .ok (.iload_n 2, 1) := by decide +kernel
theorem dX10_folds_31 : decode cX10_folds 31 = .ok (.aload_n 0, 1) := by decide +kernel
theorem dX10_folds_32 : decode cX10_folds 32 = .ok (.getfield 20, 3) := by decide +kernel
theorem dX10_folds_35 : decode cX10_folds 35 = .ok (.aload_n 0, 1) := by decide +kernel
theorem dX10_folds_36 : decode cX10_folds 36 = .ok (.getfield 31, 3) := by decide +kernel
theorem dX10_folds_39 : decode cX10_folds 39 = .ok (.iload_n 1, 1) := by decide +kernel
theorem dX10_folds_40 : decode cX10_folds 40 = .ok (.aaload, 1) := by decide +kernel
theorem dX10_folds_41 : decode cX10_folds 41 = .ok (.iload_n 3, 1) := by decide +kernel
theorem dX10_folds_42 : decode cX10_folds 42 = .ok (.iaload, 1) := by decide +kernel
theorem dX10_folds_43 : decode cX10_folds 43 = .ok (.iaload, 1) := by decide +kernel
theorem dX10_folds_44 : decode cX10_folds 44 = .ok (.iconst 2, 1) := by decide +kernel
theorem dX10_folds_45 : decode cX10_folds 45 = .ok (.if_icmp .ne 7, 3) := by decide +kernel
theorem dX10_folds_48 : decode cX10_folds 48 = .ok (.iconst 1, 1) := by decide +kernel
theorem dX10_folds_49 : decode cX10_folds 49 = .ok (.goto 4, 3) := by decide +kernel
theorem dX10_folds_52 : decode cX10_folds 52 = .ok (.iconst 0, 1) := by decide +kernel
theorem dX10_folds_53 : decode cX10_folds 53 = .ok (.aload_n 0, 1) := by decide +kernel
theorem dX10_folds_54 : decode cX10_folds 54 = .ok (.getfield 31, 3) := by decide +kernel
theorem dX10_folds_57 : decode cX10_folds 57 = .ok (.iload_n 1, 1) := by decide +kernel
theorem dX10_folds_58 : decode cX10_folds 58 = .ok (.aaload, 1) := by decide +kernel
theorem dX10_folds_59 : decode cX10_folds 59 = .ok (.iload_n 3, 1) := by decide +kernel
theorem dX10_folds_60 : decode cX10_folds 60 = .ok (.iaload, 1) := by decide +kernel
theorem dX10_folds_61 : decode cX10_folds 61 = .ok (.invokevirtual 193, 3) := by decide +kernel
theorem dX10_folds_64 : decode cX10_folds 64 = .ok (.pop, 1) := by decide +kernel
theorem dX10_folds_65 : decode cX10_folds 65 = .ok (.iinc 3 1, 3) := by decide +kernel
theorem dX10_folds_68 : decode cX10_folds 68 = .ok (.goto (-49), 3) := by decide +kernel
theorem dX10_folds_71 : decode cX10_folds 71 = .ok (.aload_n 0, 1) := by decide +kernel
theorem dX10_folds_72 : decode cX10_folds 72 = .ok (.iload_n 2, 1) := by decide +kernel
theorem dX10_folds_73 : decode cX10_folds 73 = .ok (.invokevirtual 244, 3) := by decide +kernel
theorem dX10_folds_76 : decode cX10_folds 76 = .ok (.ifCond .eq 50, 3) := by decide +kernel
theorem dX10_folds_79 : decode cX10_folds 79 = .ok (.iconst 0, 1) := by decide +kernel
theorem dX10_folds_80 : decode cX10_folds 80 = .ok (.istore_n 3, 1) := by decide +kernel
theorem dX10_folds_81 : decode cX10_folds 81 = .ok (.iload_n 3, 1) := by decide +kernel
theorem dX10_folds_82 : decode cX10_folds 82 = .ok (.iconst 3, 1) := by decide +kernel
theorem dX10_folds_83 : decode cX10_folds 83 = .ok (.if_icmp .ge 30, 3) := by decide +kernel
theorem dX10_folds_86 : decode cX10_folds 86 = .ok (.aload_n 0, 1) := by decide +kernel
theorem dX10_folds_87 : decode cX10_folds 87 = .ok (.getfield 39, 3) := by decide +kernel
theorem dX10_folds_90 : decode cX10_folds 90 = .ok (.iload_n 1, 1) := by decide +kernel
theorem dX10_folds_91 : decode cX10_folds 91 = .ok (.aaload, 1) := by decide +kernel
theorem dX10_folds_92 : decode cX10_folds 92 = .ok (.aload_n 0, 1) := by decide +kernel
theorem dX10_folds_93 : decode cX10_folds 93 = .ok (.getfield 42, 3) := by decide +kernel
theorem dX10_folds_96 : decode cX10_folds 96 = .ok (.iload_n 1, 1) := by decide +kernel
theorem dX10_folds_97 : decode cX10_folds 97 = .ok (.iaload, 1) := by decide +kernel
theorem dX10_folds_98 : decode cX10_folds 98 = .ok (.aaload, 1) := by decide +kernel
theorem dX10_folds_99 : decode cX10_folds 99 = .ok (.iload_n 3, 1) := by decide +kernel
theorem dX10_folds_100 : decode cX10_folds 100 = .ok (.aload_n 0, 1) := by decide +kernel
theorem dX10_folds_101 : decode cX10_folds 101 = .ok (.getfield 70, 3) := by decide +kernel
theorem dX10_folds_104 : decode cX10_folds 104 = .ok (.iload_n 3, 1) := by decide +kernel
theorem dX10_folds_105 : decode cX10_folds 105 = .ok (.iaload, 1) := by decide +kernel
theorem dX10_folds_106 : decode cX10_folds 106 = .ok (.iastore, 1) := by decide +kernel
theorem dX10_folds_107 : decode cX10_folds 107 = .ok (.iinc 3 1, 3) := by decide +kernel
theorem dX10_folds_110 : decode cX10_folds 110 = .ok (.goto (-29), 3) := by decide +kernel
theorem dX10_folds_113 : decode cX10_folds 113 = .ok (.aload_n 0, 1) := by decide +kernel
theorem dX10_folds_114 : decode cX10_folds 114 = .ok (.getfield 42, 3) := by decide +kernel
theorem dX10_folds_117 : decode cX10_folds 117 = .ok (.iload_n 1, 1) := by decide +kernel
theorem dX10_folds_118 : decode cX10_folds 118 = .ok (.dup2, 1) := by decide +kernel
theorem dX10_folds_119 : decode cX10_folds 119 = .ok (.iaload, 1) := by decide +kernel
theorem dX10_folds_120 : decode cX10_folds 120 = .ok (.iconst 1, 1) := by decide +kernel
theorem dX10_folds_121 : decode cX10_folds 121 = .ok (.iadd, 1) := by decide +kernel
theorem dX10_folds_122 : decode cX10_folds 122 = .ok (.iastore, 1) := by decide +kernel
theorem dX10_folds_123 : decode cX10_folds 123 = .ok (.goto (-52), 3) := by decide +kernel
theorem dX10_folds_126 : decode cX10_folds 126 = .ok (.return_, 1) := by decide +kernel
/-- the row of a page's tokens: n of them from the i-th on -/
def tkrow (μ : va_M) (p : Nat) : Nat → Nat → Rw
  | _, 0 => .leaf
  | i, n + 1 => .inner 0 (if μ 3 (μ (7 + p) i).toNat = 2 then 1 else 0) (μ (7 + p) i) .leaf (tkrow μ p (i + 1) n)
theorem tkrow_I {μ : va_M} {p : Nat} : ∀ n i : Nat, rI (tkrow μ p i n) = n
  | 0, _ => rfl
  | n + 1, i => by rw [tkrow, rI_in, tkrow_I n (i + 1)]; omega
theorem tkrow_N {μ : va_M} {p : Nat} : ∀ n i : Nat, rN (tkrow μ p i n) = n
  | 0, _ => rfl
  | n + 1, i => by
    have e : rN (Std.DTreeMap.Internal.Impl.leaf : Rw) = 0 := rfl
    rw [tkrow, rN_in, tkrow_N n (i + 1), e]; omega
theorem tkrow_T {μ : va_M} {p : Nat} : ∀ n i : Nat, rT (tkrow μ p i n) = n
  | 0, _ => rfl
  | n + 1, i => by rw [tkrow, rT_in, tkrow_T n (i + 1), if_pos (by split <;> omega)]; omega
theorem tkrow_Pg {μ : va_M} {p : Nat} : ∀ n i : Nat, rPg (tkrow μ p i n)
  | 0, _ => trivial
  | n + 1, i => ⟨by split <;> omega, trivial, tkrow_Pg n (i + 1)⟩
theorem tkrow_WF {μ : va_M} {p : Nat} : ∀ n i : Nat, (∀ j : Nat, i ≤ j → j < i + n → 0 ≤ μ (7 + p) j ∧ μ (7 + p) j < 200) → rWF (tkrow μ p i n)
  | 0, _, _ => trivial
  | n + 1, i, h => by
    have h1 := h i (by omega) (by omega)
    exact ⟨by split <;> omega, fun _ => rfl, fun q => absurd q (by split <;> omega), by omega, by omega, fun _ => h1.1, trivial, tkrow_WF n (i + 1) (fun j h2 h3 => h j (by omega) (by omega))⟩
theorem tkrow_RA {μ u : va_M} {p t : Nat} : ∀ n i : Nat, (∀ j : Nat, i ≤ j → j < i + n → u (507 + t) j = (if μ 3 (μ (7 + p) j).toNat = 2 then 1 else 0) ∧ u (578 + t) j = μ (7 + p) j ∧ u (649 + t) j = 1) → RA u t (tkrow μ p i n) i
  | 0, _, _ => trivial
  | n + 1, i, h => by
    have h1 := h i (by omega) (by omega)
    have e : rN (Std.DTreeMap.Internal.Impl.leaf : Rw) = 0 := rfl
    refine ⟨by rw [h1.1]; split <;> rfl, h1.2.1, by rw [h1.2.2, e]; rfl, trivial, ?_⟩
    rw [e, Nat.add_zero]
    exact tkrow_RA n (i + 1) (fun j h2 h3 => h j (by omega) (by omega))
theorem tkrow_Aq {μ : va_M} {p : Nat} : ∀ n i : Nat, rAq (tkrow μ p i n)
  | 0, _ => trivial
  | n + 1, i => by
    refine ⟨fun h => absurd h (by split <;> omega), fun h9 h8 => ?_, trivial, tkrow_Aq n (i + 1)⟩
    by_cases c : μ 3 (μ (7 + p) i).toNat = 2
    · rw [if_pos c] at h9
      exact absurd h9 (by unfold crI; rw [if_neg (by omega), if_neg (by omega)]; decide)
    · rw [if_neg c] at h9 h8 ⊢
      refine ⟨rfl, ?_⟩
      cases n with
      | zero =>
        have h8 : crI 0 (μ (7 + p) i) .leaf = -5 := h8
        rw [h8] at h9
        exact absurd h9 (by decide)
      | succ n =>
        by_cases c2 : μ 3 (μ (7 + p) (i + 1)).toNat = 2
        · have h8 : crI 0 (μ (7 + p) i) .leaf = crI (if μ 3 (μ (7 + p) (i + 1)).toNat = 2 then 1 else 0) (μ (7 + p) (i + 1)) .leaf := h8
          rw [if_pos c2] at h8
          have h7 : crI 1 (μ (7 + p) (i + 1)) .leaf = -5 := by unfold crI; rw [if_neg (by omega), if_neg (by omega)]
          rw [h8, h7] at h9
          exact absurd h9 (by decide)
        · exact ⟨0, μ (7 + p) (i + 1), .leaf, tkrow μ p (i + 1 + 1) n, by rw [tkrow, if_neg c2]⟩
/-- what the folding of a page may change -/
def FF (p x y : Nat) : Prop := FQ (17 + p) x y ∨ (x = 505 ∧ y = p) ∨ (17 + p * 61 ≤ x ∧ x < 17 + p * 61 + 61)
theorem FQ_not {t x y : Nat} (h : x < 507) : ¬ FQ t x y := by unfold FQ FP P8 PT; omega
theorem FF_not {p x y : Nat} (h : x < 17) : ¬ FF p x y := by unfold FF FQ FP P8 PT; omega
set_option maxHeartbeats 4000000 in
set_option maxRecDepth 100000 in
theorem LX10_folds_19 {p : Program} {l : Launch} {e : Env} {R : Room} {s : State} {m : MethodId} {args : Array Value} {below : List Frame} {meth : Method} {c : Code} {cells slots : Nat} {Q : State → Prop} {dC : Nat → ClassId} {dI : Nat → Nat → Nat} {h0 : Nat} {cI cZ cII cIII : ClassId} (hx : p.tables.exec = Jvm.exec) (hb : c.code = cX10_folds) (hml : c.maxLocals = 4) (hown : s.vm.findClass RX10 = some m.cls) (hts : ∀ w ∈ wsG, w.before args s = true) (hK : va_K (dC, dI) vwCl (mT cI cZ cII cIII) s) (hRf : 27 ≤ R.frames) (hRl : 900 ≤ R.locals) (hRc : cells ≤ R.cells) (hRs : slots ≤ R.slots) (μ0 : va_M) (pg : Int) (t : Int) (hp : 0 ≤ pg ∧ pg < 8) (htp : t = 17 + pg) (hlg : 0 ≤ μ0 15 pg.toNat ∧ μ0 15 pg.toNat ≤ 60) (htk : ∀ j : Nat, (j : Int) < μ0 15 pg.toNat → 0 ≤ μ0 (7 + pg.toNat) j ∧ μ0 (7 + pg.toNat) j < 200) (hsr : ∀ j : Nat, j < 201 → inR (μ0 3 j)) (hexit71 : ∀ (k : Int) (μ : va_M) (H : Heap) (locs : List Loc) (ls : Array Slot), (fr (PT t.toNat) μ0 μ) → (μ 719 t.toNat = μ0 15 pg.toNat) → (∀ j : Nat, (j : Int) < μ0 15 pg.toNat → μ (507 + t.toNat) j = (if μ0 3 (μ0 (7 + pg.toNat) j).toNat = 2 then 1 else 0) ∧ μ (578 + t.toNat) j = μ0 (7 + pg.toNat) j ∧ μ (649 + t.toNat) j = 1) → va_P (dC, dI) vwCl (fw (mE cI cZ cII cIII h0) h0 6325 μ) H → va_S (fA h0 6325 s.heap.size) s.heap H locs → lv_has ls 4 [(2, .int (iZ (t))), (1, .int (iZ (pg))), (0, .ref h0)] → W p l e R s m args below meth c H locs cells slots Q (F0 m 71 ls [])) :
    ∀ (n9 : Nat) (k : Int) (μ : va_M) (H : Heap) (locs : List Loc) (ls : Array Slot), (0 ≤ k ∧ k ≤ μ0 15 pg.toNat) → (fr (PT t.toNat) μ0 μ) → (μ 719 t.toNat = k) → (∀ j : Nat, (j : Int) < k → μ (507 + t.toNat) j = (if μ0 3 (μ0 (7 + pg.toNat) j).toNat = 2 then 1 else 0) ∧ μ (578 + t.toNat) j = μ0 (7 + pg.toNat) j ∧ μ (649 + t.toNat) j = 1) → (100 - k).toNat < n9 → va_P (dC, dI) vwCl (fw (mE cI cZ cII cIII h0) h0 6325 μ) H → va_S (fA h0 6325 s.heap.size) s.heap H locs → lv_has ls 4 [(3, .int (iZ (k))), (2, .int (iZ (t))), (1, .int (iZ (pg))), (0, .ref h0)] → W p l e R s m args below meth c H locs cells slots Q (F0 m 19 ls []) := by
  intro n9
  induction n9 with
  | zero => intro k μ H locs ls hk hf hn hc hm9 hP hS hl; exact absurd hm9 (Nat.not_lt_zero _)
  | succ n9 ih =>
    intro k μ H locs ls hk hf hn hc hm9 hP hS hl
    have hlk : μ 15 pg.toNat = μ0 15 pg.toNat := hf _ _ (by unfold PT; omega)
    have hpk : ∀ j, μ (7 + pg.toNat) j = μ0 (7 + pg.toNat) j := fun j => hf _ _ (by unfold PT; omega)
    have hsk : ∀ j, μ 3 j = μ0 3 j := fun j => hf _ _ (by unfold PT; omega)
    refine lv_iload_n hx hb dX10_folds_19 rfl (lv_at hl 0 rfl) ?_
    refine lv_aload_n hx hb dX10_folds_20 rfl (lv_at hl 3 rfl) ?_
    refine fz_get (D := (dC, dI)) (ci := 10) (v := .ref (h0 + 15)) (C := RX10) (T := TX10) (N := 53) hx hb hts inG10 hown hK hP (k := 0) (by decide) (F := mF h0) mE_obj rfl 15 (by decide) (hts _ k1181) (fun _ h9 => h9) rfl dX10_folds_21 ?_
    refine lv_iload_n hx hb dX10_folds_24 rfl (lv_at hl 2 rfl) ?_
    refine fz_ld (k := 15) (n := 8) hx hb hK hP 0 (by decide) mE_pageLong rfl ⟨by omega, by omega⟩ (by decide) dX10_folds_25 ?_
    refine fz_icmp_ge (tgt := 71) (by constructor <;> omega) (by constructor <;> omega) hx hb dX10_folds_26 (by decide) (fun c26_ => ?_) (fun c26_ => ?_)
    · exact hexit71 (k) μ H locs ls (by exact hf) (by omega) (by
                    intro j hj
                    exact hc j (by omega)) hP hS (lv_sub hl [1, 2, 3] rfl)
    · have hkk := htk k.toNat (by omega)
      have hpkk := hpk k.toNat
      have hsx := hsr (μ0 (7 + pg.toNat) k.toNat).toNat (by omega)
      rw [← hsk] at hsx
      have hsx : inR (μ 3 (μ (7 + pg.toNat) k.toNat).toNat) := by rw [hpkk]; exact hsx
      refine lv_aload_n hx hb dX10_folds_29 rfl (lv_at hl 3 rfl) ?_
      refine lv_iload_n hx hb dX10_folds_30 rfl (lv_at hl 1 rfl) ?_
      have j53_ : ∀ (x53_0 : Int), (x53_0 = (if μ 3 (μ (7 + pg.toNat) k.toNat).toNat = 2 then 1 else 0)) → W p l e R s m args below meth c H locs cells slots Q (F0 m 53 ls [.int (iZ (x53_0)), .int (iZ (t)), .ref h0]) := by
        intro x53_0 hj53_0
        refine lv_aload_n hx hb dX10_folds_53 rfl (lv_at hl 3 rfl) ?_
        refine fz_get (D := (dC, dI)) (ci := 10) (v := .ref (h0 + 6)) (C := RX10) (T := TX10) (N := 53) hx hb hts inG10 hown hK hP (k := 0) (by decide) (F := mF h0) mE_obj rfl 14 (by decide) (hts _ k1180) (fun _ h9 => h9) rfl dX10_folds_54 ?_
        refine lv_iload_n hx hb dX10_folds_57 rfl (lv_at hl 2 rfl) ?_
        refine fz_ald (k := 6) (n := 8) (k2 := (7 + (pg).toNat)) hx hb hK hP 2 rfl (by decide) mE_page rfl ⟨by omega, by omega⟩ (by decide) (if_pos (by omega)) dX10_folds_58 ?_
        refine lv_iload_n hx hb dX10_folds_59 rfl (lv_at hl 0 rfl) ?_
        refine fz_ld (k := (7 + (pg).toNat)) (n := 60) hx hb hK hP 0 (by omega) (mE_pageR (by omega)) rfl ⟨by omega, by omega⟩ (by decide) dX10_folds_60 ?_
        refine va_calli (va_runV (As := [.int (iZ (t)), .int (iZ (x53_0)), .int (iZ (μ (7 + (pg).toNat) (k).toNat))]) (rest := []) ⟨hx, hb, hml, hown, hts⟩ (m_adds l dC dI cI cZ cII cIII h0 H.size μ (t) (x53_0) (μ (7 + (pg).toNat) (k).toNat) (by first | assumption | omega | exact ⟨by omega, by omega⟩) (by first | assumption | omega | exact ⟨by omega, by omega⟩)) (cwV 3 hts (gV_G k1377 k1379 ks_yX10_adds k13 k1380) rfl rfl rfl (by decide +kernel) ⟨by show 1 + 1 ≤ _; omega, by show 8 + (5 + 11) + (14) ≤ _; omega⟩) ⟨fun a U g mk q => by obtain ⟨q0, q1, qP, qK⟩ := q; exact ⟨q0, q1, qP, va_K.moved (u := U) (U := U.calling g mk a) (Vm.Alike.refl U.vm) qK⟩, va_recv hK hP (ci := 10) (q0 := 0) rfl ((fw_get (by decide)).trans (by rw [mE_obj]; rfl)), fun U hU hW => ⟨rfl, by rw [hU], by rw [hU]; exact hP, va_K.moved hW.alike hK⟩⟩ rfl rfl hl.1 rfl (lv_room (Nat.le_of_ble_eq_true rfl)) dX10_folds_61 ⟨hRc, hRs⟩) hS (fun q _ h => fA_le hS.1 q h) (fA_le hS.1) (fun r9 u9 t9 H1 locs ht9 hvm9 hw9 hB9 hz9 hk9 hS => ?_)
        obtain ⟨μ1, r2⟩ := u9
        obtain ⟨hP, -⟩ := hB9
        rw [ht9] at hP
        generalize H1 = H at hP hS ⊢
        obtain ⟨e9, hw9⟩ := hw9
        have e9 : r9 = iZ r2 := e9
        subst e9
        simp only at hP hw9
        have hμ1 := hw9; clear hw9
        refine lv_pop hx hb dX10_folds_64 rfl ?_
        refine lv_iinc (v := iZ (k + 1)) (lv' := [(3, .int (iZ (k + 1))), (2, .int (iZ (t))), (1, .int (iZ (pg))), (0, .ref h0)]) hx hb dX10_folds_65 hl (k := 0) rfl (iZ_add _ _) (by decide) rfl (fun ls hl => ?_)
        refine lv_goto (tgt := 19) hx hb dX10_folds_68 (by decide) ?_
        exact ih (k + 1) μ1 H locs ls (by omega) (by
                        obtain ⟨hu, _⟩ := hμ1.2 (by omega)
                        rw [hu]
                        exact fr_uz (fr_uz (fr_uz (fr_uz hf (by unfold PT; omega)) (by unfold PT; omega)) (by unfold PT; omega)) (by unfold PT; omega)) (by
                        obtain ⟨hu, _⟩ := hμ1.2 (by omega)
                        rw [hu, uz_s, hn]) (by
                        obtain ⟨hu, _⟩ := hμ1.2 (by omega)
                        rw [hn] at hu
                        intro j hj
                        rw [hu]
                        by_cases hjk : j = k.toNat
                        · subst hjk
                          refine ⟨?_, ?_, ?_⟩
                          · rw [uz_n (by omega), uz_n (by omega), uz_n (by omega), uz_s, hj53_0, hpkk, hsk]
                          · rw [uz_n (by omega), uz_n (by omega), uz_s, hpkk]
                          · rw [uz_n (by omega), uz_s]
                        · rw [uz_n (by omega), uz_n (by omega), uz_n (by omega), uz_n (by omega), uz_n (by omega), uz_n (by omega), uz_n (by omega), uz_n (by omega), uz_n (by omega), uz_n (by omega), uz_n (by omega), uz_n (by omega)]
                          exact hc j (by omega)) (by omega) hP hS (lv_sub hl [0, 1, 2, 3] rfl)
      refine lv_aload_n hx hb dX10_folds_31 rfl (lv_at hl 3 rfl) ?_
      refine fz_get (D := (dC, dI)) (ci := 10) (v := .ref (h0 + 3)) (C := RX10) (T := TX10) (N := 53) hx hb hts inG10 hown hK hP (k := 0) (by decide) (F := mF h0) mE_obj rfl 11 (by decide) (hts _ k1177) (fun _ h9 => h9) rfl dX10_folds_32 ?_
      refine lv_aload_n hx hb dX10_folds_35 rfl (lv_at hl 3 rfl) ?_
      refine fz_get (D := (dC, dI)) (ci := 10) (v := .ref (h0 + 6)) (C := RX10) (T := TX10) (N := 53) hx hb hts inG10 hown hK hP (k := 0) (by decide) (F := mF h0) mE_obj rfl 14 (by decide) (hts _ k1180) (fun _ h9 => h9) rfl dX10_folds_36 ?_
      refine lv_iload_n hx hb dX10_folds_39 rfl (lv_at hl 2 rfl) ?_
      refine fz_ald (k := 6) (n := 8) (k2 := (7 + (pg).toNat)) hx hb hK hP 2 rfl (by decide) mE_page rfl ⟨by omega, by omega⟩ (by decide) (if_pos (by omega)) dX10_folds_40 ?_
      refine lv_iload_n hx hb dX10_folds_41 rfl (lv_at hl 0 rfl) ?_
      refine fz_ld (k := (7 + (pg).toNat)) (n := 60) hx hb hK hP 0 (by omega) (mE_pageR (by omega)) rfl ⟨by omega, by omega⟩ (by decide) dX10_folds_42 ?_
      refine fz_ld (k := 3) (n := 201) hx hb hK hP 0 (by decide) mE_tokenSort rfl ⟨by omega, by omega⟩ (by decide) dX10_folds_43 ?_
      refine lv_iconst (v := iZ 2) hx hb dX10_folds_44 rfl ?_
      refine fz_icmp_ne (tgt := 52) (by first | exact hsx | (constructor <;> omega)) (by decide) hx hb dX10_folds_45 (by decide) (fun c45_ => ?_) (fun c45_ => ?_)
      · refine lv_iconst (v := iZ 0) hx hb dX10_folds_52 rfl ?_
        exact j53_ (0) (by first | (rw [if_pos (by omega)]) | (rw [if_neg (by omega)]))
      · refine lv_iconst (v := iZ 1) hx hb dX10_folds_48 rfl ?_
        refine lv_goto (tgt := 53) hx hb dX10_folds_49 (by decide) ?_
        exact j53_ (1) (by first | (rw [if_pos (by omega)]) | (rw [if_neg (by omega)]))

set_option maxRecDepth 100000 in
theorem k1492 : (Cond.methodLink "PageSkeletonModel" (222 : Nat) ({ cls := "PageSkeletonModel", name := "sizeOf", desc := "(III)I" } : MethodName)) ∈ wsG := wsG_a7 52 rfl rfl
set_option maxRecDepth 100000 in
theorem k1494 : (Cond.instanceMethod ({ cls := "PageSkeletonModel", name := "sizeOf", desc := "(III)I" } : MethodName)) ∈ wsG := wsG_a7 54 rfl rfl
set_option maxRecDepth 100000 in
theorem k1495 : (Cond.code ({ cls := "PageSkeletonModel", name := "sizeOf", desc := "(III)I" } : MethodName) prog_12_method_26_code (6 : Nat) (Option.some FieldType.int)) ∈ wsG := wsG_a7 55 rfl rfl
set_option maxRecDepth 100000 in
theorem ks_yX10_sizeOf : Cond.selects RX10 yX10_sizeOf yX10_sizeOf ∈ wsG := wsG_p 81 rfl rfl
theorem dX10_itemsIn_0 : decode cX10_itemsIn 0 = .ok (.iconst 0, 1) := by decide +kernel
theorem dX10_itemsIn_1 : decode cX10_itemsIn 1 = .ok (.istore_n 3, 1) := by decide +kernel
theorem dX10_itemsIn_2 : decode cX10_itemsIn 2 = .ok (.iload_n 2, 1) := by decide +kernel
theorem dX10_itemsIn_3 : decode cX10_itemsIn 3 = .ok (.iconst 1, 1) := by decide +kernel
theorem dX10_itemsIn_4 : decode cX10_itemsIn 4 = .ok (.iadd, 1) := by decide +kernel
theorem dX10_itemsIn_5 : decode cX10_itemsIn 5 = .ok (.istore 4, 2) := by decide +kernel
theorem dX10_itemsIn_7 : decode cX10_itemsIn 7 = .ok (.iload 4, 2) := by decide +kernel
theorem dX10_itemsIn_9 : decode cX10_itemsIn 9 = .ok (.iload_n 2, 1) := by decide +kernel
theorem dX10_itemsIn_10 : decode cX10_itemsIn 10 = .ok (.aload_n 0, 1) := by decide +kernel
theorem dX10_itemsIn_11 : decode cX10_itemsIn 11 = .ok (.getfield 51, 3) := by decide +kernel
theorem dX10_itemsIn_14 : decode cX10_itemsIn 14 = .ok (.iload_n 1, 1) := by decide +kernel
theorem dX10_itemsIn_15 : decode cX10_itemsIn 15 = .ok (.aaload, 1) := by decide +kernel
theorem dX10_itemsIn_16 : decode cX10_itemsIn 16 = .ok (.iload_n 2, 1) := by decide +kernel
theorem dX10_itemsIn_17 : decode cX10_itemsIn 17 = .ok (.iaload, 1) := by decide +kernel
theorem dX10_itemsIn_18 : decode cX10_itemsIn 18 = .ok (.iadd, 1) := by decide +kernel
theorem dX10_itemsIn_19 : decode cX10_itemsIn 19 = .ok (.if_icmp .ge 23, 3) := by decide +kernel
theorem dX10_itemsIn_22 : decode cX10_itemsIn 22 = .ok (.iinc 3 1, 3) := by decide +kernel
theorem dX10_itemsIn_25 : decode cX10_itemsIn 25 = .ok (.iload 4, 2) := by decide +kernel
theorem dX10_itemsIn_27 : decode cX10_itemsIn 27 = .ok (.aload_n 0, 1) := by decide +kernel
theorem dX10_itemsIn_28 : decode cX10_itemsIn 28 = .ok (.getfield 51, 3) := by decide +kernel
theorem dX10_itemsIn_31 : decode cX10_itemsIn 31 = .ok (.iload_n 1, 1) := by decide +kernel
theorem dX10_itemsIn_32 : decode cX10_itemsIn 32 = .ok (.aaload, 1) := by decide +kernel
theorem dX10_itemsIn_33 : decode cX10_itemsIn 33 = .ok (.iload 4, 2) := by decide +kernel
theorem dX10_itemsIn_35 : decode cX10_itemsIn 35 = .ok (.iaload, 1) := by decide +kernel
theorem dX10_itemsIn_36 : decode cX10_itemsIn 36 = .ok (.iadd, 1) := by decide +kernel
theorem dX10_itemsIn_37 : decode cX10_itemsIn 37 = .ok (.istore 4, 2) := by decide +kernel
theorem dX10_itemsIn_39 : decode cX10_itemsIn 39 = .ok (.goto (-32), 3) := by decide +kernel
theorem dX10_itemsIn_42 : decode cX10_itemsIn 42 = .ok (.iload_n 3, 1) := by decide +kernel
theorem dX10_itemsIn_43 : decode cX10_itemsIn 43 = .ok (.ireturn, 1) := by decide +kernel
theorem dX10_lists_0 : decode cX10_lists 0 = .ok (.iconst 0, 1) := by decide +kernel
theorem dX10_lists_1 : decode cX10_lists 1 = .ok (.istore 5, 2) := by decide +kernel
theorem dX10_lists_3 : decode cX10_lists 3 = .ok (.iload_n 2, 1) := by decide +kernel
theorem dX10_lists_4 : decode cX10_lists 4 = .ok (.istore 6, 2) := by decide +kernel
theorem dX10_lists_6 : decode cX10_lists 6 = .ok (.iload 6, 2) := by decide +kernel
theorem dX10_lists_8 : decode cX10_lists 8 = .ok (.iload_n 3, 1) := by decide +kernel
theorem dX10_lists_9 : decode cX10_lists 9 = .ok (.if_icmp .ge 30, 3) := by decide +kernel
theorem dX10_lists_12 : decode cX10_lists 12 = .ok (.aload 4, 2) := by decide +kernel
theorem dX10_lists_14 : decode cX10_lists 14 = .ok (.iload 5, 2) := by decide +kernel
theorem dX10_lists_16 : decode cX10_lists 16 = .ok (.iload 6, 2) := by decide +kernel
theorem dX10_lists_18 : decode cX10_lists 18 = .ok (.iastore, 1) := by decide +kernel
theorem dX10_lists_19 : decode cX10_lists 19 = .ok (.iinc 5 1, 3) := by decide +kernel
theorem dX10_lists_22 : decode cX10_lists 22 = .ok (.iload 6, 2) := by decide +kernel
theorem dX10_lists_24 : decode cX10_lists 24 = .ok (.aload_n 0, 1) := by decide +kernel
theorem dX10_lists_25 : decode cX10_lists 25 = .ok (.getfield 51, 3) := by decide +kernel
theorem dX10_lists_28 : decode cX10_lists 28 = .ok (.iload_n 1, 1) := by decide +kernel
theorem dX10_lists_29 : decode cX10_lists 29 = .ok (.aaload, 1) := by decide +kernel
theorem dX10_lists_30 : decode cX10_lists 30 = .ok (.iload 6, 2) := by decide +kernel
theorem dX10_lists_32 : decode cX10_lists 32 = .ok (.iaload, 1) := by decide +kernel
theorem dX10_lists_33 : decode cX10_lists 33 = .ok (.iadd, 1) := by decide +kernel
theorem dX10_lists_34 : decode cX10_lists 34 = .ok (.istore 6, 2) := by decide +kernel
theorem dX10_lists_36 : decode cX10_lists 36 = .ok (.goto (-30), 3) := by decide +kernel
theorem dX10_lists_39 : decode cX10_lists 39 = .ok (.iload 5, 2) := by decide +kernel
theorem dX10_lists_41 : decode cX10_lists 41 = .ok (.ireturn, 1) := by decide +kernel
theorem dX10_sizeOf_0 : decode cX10_sizeOf 0 = .ok (.iconst 0, 1) := by decide +kernel
theorem dX10_sizeOf_1 : decode cX10_sizeOf 1 = .ok (.istore 4, 2) := by decide +kernel
theorem dX10_sizeOf_3 : decode cX10_sizeOf 3 = .ok (.iload_n 2, 1) := by decide +kernel
theorem dX10_sizeOf_4 : decode cX10_sizeOf 4 = .ok (.istore 5, 2) := by decide +kernel
theorem dX10_sizeOf_6 : decode cX10_sizeOf 6 = .ok (.iload 5, 2) := by decide +kernel
theorem dX10_sizeOf_8 : decode cX10_sizeOf 8 = .ok (.iload_n 3, 1) := by decide +kernel
theorem dX10_sizeOf_9 : decode cX10_sizeOf 9 = .ok (.if_icmp .ge 32, 3) := by decide +kernel
theorem dX10_sizeOf_12 : decode cX10_sizeOf 12 = .ok (.iload 4, 2) := by decide +kernel
theorem dX10_sizeOf_14 : decode cX10_sizeOf 14 = .ok (.aload_n 0, 1) := by decide +kernel
theorem dX10_sizeOf_15 : decode cX10_sizeOf 15 = .ok (.getfield 45, 3) := by decide +kernel
theorem dX10_sizeOf_18 : decode cX10_sizeOf 18 = .ok (.iload_n 1, 1) := by decide +kernel
theorem dX10_sizeOf_19 : decode cX10_sizeOf 19 = .ok (.aaload, 1) := by decide +kernel
theorem dX10_sizeOf_20 : decode cX10_sizeOf 20 = .ok (.iload 5, 2) := by decide +kernel
theorem dX10_sizeOf_22 : decode cX10_sizeOf 22 = .ok (.iaload, 1) := by decide +kernel
theorem dX10_sizeOf_23 : decode cX10_sizeOf 23 = .ok (.iconst 3, 1) := by decide +kernel
theorem dX10_sizeOf_24 : decode cX10_sizeOf 24 = .ok (.if_icmp .ge 7, 3) := by decide +kernel
theorem dX10_sizeOf_27 : decode cX10_sizeOf 27 = .ok (.iconst 1, 1) := by decide +kernel
theorem dX10_sizeOf_28 : decode cX10_sizeOf 28 = .ok (.goto 4, 3) := by decide +kernel
theorem dX10_sizeOf_31 : decode cX10_sizeOf 31 = .ok (.iconst 0, 1) := by decide +kernel
theorem dX10_sizeOf_32 : decode cX10_sizeOf 32 = .ok (.iadd, 1) := by decide +kernel
theorem dX10_sizeOf_33 : decode cX10_sizeOf 33 = .ok (.istore 4, 2) := by decide +kernel
theorem dX10_sizeOf_35 : decode cX10_sizeOf 35 = .ok (.iinc 5 1, 3) := by decide +kernel
theorem dX10_sizeOf_38 : decode cX10_sizeOf 38 = .ok (.goto (-32), 3) := by decide +kernel
theorem dX10_sizeOf_41 : decode cX10_sizeOf 41 = .ok (.iload 4, 2) := by decide +kernel
theorem dX10_sizeOf_43 : decode cX10_sizeOf 43 = .ok (.ireturn, 1) := by decide +kernel
theorem dX10_sizeOfAll_0 : decode cX10_sizeOfAll 0 = .ok (.aload_n 0, 1) := by decide +kernel
theorem dX10_sizeOfAll_1 : decode cX10_sizeOfAll 1 = .ok (.iload_n 1, 1) := by decide +kernel
theorem dX10_sizeOfAll_2 : decode cX10_sizeOfAll 2 = .ok (.iconst 0, 1) := by decide +kernel
theorem dX10_sizeOfAll_3 : decode cX10_sizeOfAll 3 = .ok (.aload_n 0, 1) := by decide +kernel
theorem dX10_sizeOfAll_4 : decode cX10_sizeOfAll 4 = .ok (.getfield 54, 3) := by decide +kernel
theorem dX10_sizeOfAll_7 : decode cX10_sizeOfAll 7 = .ok (.iload_n 1, 1) := by decide +kernel
theorem dX10_sizeOfAll_8 : decode cX10_sizeOfAll 8 = .ok (.iaload, 1) := by decide +kernel
theorem dX10_sizeOfAll_9 : decode cX10_sizeOfAll 9 = .ok (.invokevirtual 222, 3) := by decide +kernel
theorem dX10_sizeOfAll_12 : decode cX10_sizeOfAll 12 = .ok (.ireturn, 1) := by decide +kernel
theorem rw_ne {w : Rw} (h : 0 < rN w) : ∃ (z k : Nat) (v : Int) (l r : Rw), w = Std.DTreeMap.Internal.Impl.inner z k v l r := by
  cases w with
  | leaf => exact absurd h (Nat.lt_irrefl 0)
  | inner z k v l r => exact ⟨z, k, v, l, r, rfl⟩
theorem rw_0 {w : Rw} (h : rN w = 0) : w = .leaf := by
  cases w with
  | leaf => rfl
  | inner z k v l r => have e : rN (Std.DTreeMap.Internal.Impl.inner z k v l r : Rw) = 1 + rN l + rN r := rfl; omega
theorem rN_in {z k : Nat} {v : Int} {l r : Rw} : rN (Std.DTreeMap.Internal.Impl.inner z k v l r : Rw) = 1 + rN l + rN r := rfl
theorem rI_in {z k : Nat} {v : Int} {l r : Rw} : rI (Std.DTreeMap.Internal.Impl.inner z k v l r : Rw) = 1 + rI r := rfl
theorem rI_le : ∀ w : Rw, rI w ≤ rN w
  | .leaf => Nat.le_refl _
  | .inner _ _ _ l r => by rw [rN_in, rI_in]; have := rI_le r; omega
section ROW
variable {cI cZ cII cIII : ClassId} {h0 : Nat}
theorem mE_rowAny {q : Nat} (h : (723 ≤ q ∧ q < 737) ∨ (738 ≤ q ∧ q < 752)) (f : Nat → Int32) : mE cI cZ cII cIII h0 q f = .inl (cI, 260, .inl f) := by
  rcases h with h | h
  · obtain ⟨i, rfl⟩ : ∃ i, q = 723 + i := ⟨q - 723, by omega⟩
    exact mE_rowSR (by omega) f
  · obtain ⟨i, rfl⟩ : ∃ i, q = 738 + i := ⟨q - 738, by omega⟩
    exact mE_rowPR (by omega) f
end ROW
/-- tags, words, fields in n places from p on -/
def cS (μ : va_M) (t p : Nat) : Nat → Int
  | 0 => 0
  | n + 1 => cS μ t p n + if μ (507 + t) (p + n) < 3 then 1 else 0
theorem cS_rng {μ : va_M} {t p : Nat} : ∀ n, 0 ≤ cS μ t p n ∧ cS μ t p n ≤ n
  | 0 => by simp [cS]
  | n + 1 => by have := cS_rng (μ := μ) (t := t) (p := p) n; rw [cS]; split <;> omega
theorem cS_add {μ : va_M} {t p m : Nat} : ∀ n, cS μ t p (m + n) = cS μ t p m + cS μ t (p + m) n
  | 0 => by simp [cS]
  | n + 1 => by rw [← Nat.add_assoc, cS, cS_add n, cS, ← Nat.add_assoc p m n]; omega
theorem cS_row {μ : va_M} {t : Nat} : ∀ (w : Rw) (p : Nat), RA μ t w p → cS μ t p (rN w) = rL w
  | .leaf, _, _ => rfl
  | .inner z k v l r, p, ⟨h1, _, _, h4, h5⟩ => by
    rw [rN_in, cS_add, cS_add, cS_row l _ h4, show p + (1 + rN l) = p + 1 + rN l by omega, cS_row r _ h5, cS, cS, rL, Nat.add_zero, h1]
    by_cases hk : k < 3
    · rw [if_pos (by omega), if_pos hk]; omega
    · rw [if_neg (by omega), if_neg hk]; omega
set_option maxHeartbeats 4000000 in
set_option maxRecDepth 100000 in
theorem LX10_itemsIn_7 {p : Program} {l : Launch} {e : Env} {R : Room} {s : State} {m : MethodId} {args : Array Value} {below : List Frame} {meth : Method} {c : Code} {cells slots : Nat} {Q : State → Prop} {dC : Nat → ClassId} {dI : Nat → Nat → Nat} {h0 : Nat} {cI cZ cII cIII : ClassId} (hx : p.tables.exec = Jvm.exec) (hb : c.code = cX10_itemsIn) (hml : c.maxLocals = 5) (hown : s.vm.findClass RX10 = some m.cls) (hts : ∀ w ∈ wsG, w.before args s = true) (hK : va_K (dC, dI) vwCl (mT cI cZ cII cIII) s) (hRf : 1 ≤ R.frames) (hRl : 14 ≤ R.locals) (hRc : cells ≤ R.cells) (hRs : slots ≤ R.slots) (μ0 : va_M) (t : Int) (i : Int) (w1 : Rw) (ht : 0 ≤ t ∧ t < 70) (hi : 0 ≤ i ∧ i + 1 + rN w1 ≤ 900) (hs : μ0 (649 + t.toNat) i.toNat = 1 + rN w1) (hexit42 : ∀ (n : Int) (k : Int) (w : Rw) (μ : va_M) (H : Heap) (locs : List Loc) (ls : Array Slot), (μ = μ0) → (n = rI w1) → va_P (dC, dI) vwCl (fw (mE cI cZ cII cIII h0) h0 6325 μ) H → va_S (fA h0 6325 s.heap.size) s.heap H locs → lv_has ls 5 [(3, .int (iZ (n)))] → W p l e R s m args below meth c H locs cells slots Q (F0 m 42 ls [])) :
    ∀ (n9 : Nat) (n : Int) (k : Int) (w : Rw) (μ : va_M) (H : Heap) (locs : List Loc) (ls : Array Slot), (μ = μ0) → (RA μ0 t.toNat w k.toNat) → (k + rN w = i + 1 + rN w1 ∧ i < k) → (n + rI w = rI w1 ∧ 0 ≤ n) → rN w < n9 → va_P (dC, dI) vwCl (fw (mE cI cZ cII cIII h0) h0 6325 μ) H → va_S (fA h0 6325 s.heap.size) s.heap H locs → lv_has ls 5 [(4, .int (iZ (k))), (3, .int (iZ (n))), (0, .ref h0), (1, .int (iZ (t))), (2, .int (iZ (i)))] → W p l e R s m args below meth c H locs cells slots Q (F0 m 7 ls []) := by
  intro n9
  induction n9 with
  | zero => intro n k w μ H locs ls hm hw hk hn hm9 hP hS hl; exact absurd hm9 (Nat.not_lt_zero _)
  | succ n9 ih =>
    intro n k w μ H locs ls hm hw hk hn hm9 hP hS hl
    subst hm
    have hi8 := rI_le w
    refine lv_iload hx hb dX10_itemsIn_7 (lv_at hl 0 rfl) ?_
    refine lv_iload_n hx hb dX10_itemsIn_9 rfl (lv_at hl 4 rfl) ?_
    refine lv_aload_n hx hb dX10_itemsIn_10 rfl (lv_at hl 2 rfl) ?_
    refine fz_get (D := (dC, dI)) (ci := 10) (v := .ref (h0 + 648)) (C := RX10) (T := TX10) (N := 53) hx hb hts inG10 hown hK hP (k := 0) (by decide) (F := mF h0) mE_obj rfl 20 (by decide) (hts _ k1186) (fun _ h9 => h9) rfl dX10_itemsIn_11 ?_
    refine lv_iload_n hx hb dX10_itemsIn_14 rfl (lv_at hl 3 rfl) ?_
    refine fz_ald (k := 648) (n := 70) (k2 := (649 + (t).toNat)) hx hb hK hP 2 rfl (by decide) mE_span rfl ⟨by omega, by omega⟩ (by decide) (if_pos (by omega)) dX10_itemsIn_15 ?_
    refine lv_iload_n hx hb dX10_itemsIn_16 rfl (lv_at hl 4 rfl) ?_
    refine fz_ld (k := (649 + (t).toNat)) (n := 900) hx hb hK hP 0 (by omega) (mE_spanR (by omega)) rfl ⟨by omega, by omega⟩ (by decide) dX10_itemsIn_17 ?_
    rw [show μ (649 + (t).toNat) (i).toNat = 1 + (rN w1 : Int) from (by exact hs)]
    refine lv_iadd hx hb dX10_itemsIn_18 ?_
    refine lv_topi (fun x9 ex9 => ?_)
    obtain rfl : x9 = iZ (i + (1 + (rN w1 : Int))) := ex9.trans (iZ_add _ _)
    refine fz_icmp_ge (tgt := 42) (by constructor <;> omega) (by constructor <;> omega) hx hb dX10_itemsIn_19 (by decide) (fun c19_ => ?_) (fun c19_ => ?_)
    · exact hexit42 (n) (k) (w) μ H locs ls (by rfl) (by
                    obtain rfl := rw_0 (w := w) (by omega)
                    have h5 : rI (Std.DTreeMap.Internal.Impl.leaf : Rw) = 0 := rfl
                    omega) hP hS (lv_sub hl [1] rfl)
    · obtain ⟨z9, k9, v9, l9, w9, rfl⟩ := rw_ne (w := w) (by omega)
      obtain ⟨g1, g2, g3, g4, g5⟩ := hw
      have hn9 := rN_in (z := z9) (k := k9) (v := v9) (l := l9) (r := w9)
      have hi9 := rI_in (z := z9) (k := k9) (v := v9) (l := l9) (r := w9)
      refine lv_iinc (v := iZ (n + 1)) (lv' := [(3, .int (iZ (n + 1))), (4, .int (iZ (k))), (0, .ref h0), (1, .int (iZ (t))), (2, .int (iZ (i)))]) hx hb dX10_itemsIn_22 hl (k := 1) rfl (iZ_add _ _) (by decide) rfl (fun ls hl => ?_)
      refine lv_iload hx hb dX10_itemsIn_25 (lv_at hl 1 rfl) ?_
      refine lv_aload_n hx hb dX10_itemsIn_27 rfl (lv_at hl 2 rfl) ?_
      refine fz_get (D := (dC, dI)) (ci := 10) (v := .ref (h0 + 648)) (C := RX10) (T := TX10) (N := 53) hx hb hts inG10 hown hK hP (k := 0) (by decide) (F := mF h0) mE_obj rfl 20 (by decide) (hts _ k1186) (fun _ h9 => h9) rfl dX10_itemsIn_28 ?_
      refine lv_iload_n hx hb dX10_itemsIn_31 rfl (lv_at hl 3 rfl) ?_
      refine fz_ald (k := 648) (n := 70) (k2 := (649 + (t).toNat)) hx hb hK hP 2 rfl (by decide) mE_span rfl ⟨by omega, by omega⟩ (by decide) (if_pos (by omega)) dX10_itemsIn_32 ?_
      refine lv_iload hx hb dX10_itemsIn_33 (lv_at hl 1 rfl) ?_
      refine fz_ld (k := (649 + (t).toNat)) (n := 900) hx hb hK hP 0 (by omega) (mE_spanR (by omega)) rfl ⟨by omega, by omega⟩ (by decide) dX10_itemsIn_35 ?_
      rw [show μ (649 + (t).toNat) (k).toNat = 1 + (rN l9 : Int) from (by exact g3)]
      refine lv_iadd hx hb dX10_itemsIn_36 ?_
      refine lv_topi (fun x9 ex9 => ?_)
      obtain rfl : x9 = iZ (k + (1 + (rN l9 : Int))) := ex9.trans (iZ_add _ _)
      refine lv_istore (lv' := [(4, .int (iZ (k + (1 + (rN l9 : Int))))), (3, .int (iZ (n + 1))), (0, .ref h0), (1, .int (iZ (t))), (2, .int (iZ (i)))]) hx hb dX10_itemsIn_37 hl (by decide) rfl (fun ls hl => ?_)
      refine lv_goto (tgt := 7) hx hb dX10_itemsIn_39 (by decide) ?_
      exact ih (n + 1) (k + (1 + (rN l9 : Int))) (w9) μ H locs ls (by rfl) (by rw [show (k + (1 + (rN l9 : Int))).toNat = k.toNat + 1 + rN l9 by omega]; exact g5) (by omega) (by omega) (by omega) hP hS (lv_sub hl [0, 1, 2, 3, 4] rfl)
set_option maxHeartbeats 4000000 in
set_option maxRecDepth 100000 in
theorem m_itemsIn (l : Launch) (dC : Nat → ClassId) (dI : Nat → Nat → Nat) (cI cZ cII cIII : ClassId) (h0 sz : Nat) (μ : va_M) (t : Int) (i : Int) (w1 : Rw) (ht : 0 ≤ t ∧ t < 70) (hi : 0 ≤ i ∧ i + 1 + rN w1 ≤ 900) (hs : μ (649 + t.toNat) i.toNat = 1 + rN w1) (hR : RA μ t.toNat w1 (i.toNat + 1)) : Met l yX10_itemsIn (Cond.code yX10_itemsIn cX10_itemsIn 5 (some .int) :: wsG) ({ frames := 1, cells := 0, slots := 0, locals := 14 } : Room) (va_Pc [.ref h0, .int (iZ (t)), .int (iZ (i))] (fun U => U.heap.size = sz ∧ va_P (dC, dI) vwCl (fw (mE cI cZ cII cIII h0) h0 6325 μ) U.heap ∧ va_K (dC, dI) vwCl (mT cI cZ cII cIII) U)) (va_Qi (fun (r9 : Int32) (u : va_M × Int) => r9 = iZ u.2 ∧ (fun (u : va_M) (r : Int) => u = μ ∧ r = rI w1) u.1 u.2) (fun u t => va_P (dC, dI) vwCl (fw (mE cI cZ cII cIII h0) h0 6325 u.1) t.heap ∧ va_K (dC, dI) vwCl (mT cI cZ cII cIII) t) (fA h0 6325 sz)) 0 0 (fA h0 6325 sz) := by
  refine Met.ofW (cc := cX10_itemsIn) (maxL := 5) (ret := (some .int)) (by decide) rfl ?_
  intro p e s m args below meth c s₁ B hml hv
  obtain ⟨rfl, hsz, hP, hK⟩ := hv
  have hx := B.exec
  have hb := B.bytes
  have hr := B.returns
  have hts : ∀ w ∈ wsG, w.before _ s = true := hG_of (atoms_spec (ws := (Cond.code yX10_itemsIn cX10_itemsIn 5 (some .int) :: wsG)) B.pre)
  have hown : s.vm.findClass RX10 = some m.cls := findClass_of_methodNamed B.named
  have hlocks := B.notSynchronized
  subst hsz
  have hS : va_S (fA h0 6325 s.heap.size) s.heap s.heap [] := va_S.rf
  have hl := lv_entry ([.ref h0, .int (iZ (t)), .int (iZ (i))]) (n := 5) (Nat.le_of_ble_eq_true rfl)
  rw [lg_entry_eq]
  generalize (lg_sl ([.ref h0, .int (iZ (t)), .int (iZ (i))]) ++ List.replicate (5 - (lg_sl ([.ref h0, .int (iZ (t)), .int (iZ (i))])).length) Slot.unset).toArray = ls at hl ⊢
  have hl : lv_has ls 5 [(0, .ref h0), (1, .int (iZ (t))), (2, .int (iZ (i)))] := hl
  refine lv_iconst (v := iZ 0) hx hb dX10_itemsIn_0 rfl ?_
  refine lv_istore_n (lv' := [(3, .int (iZ (0))), (0, .ref h0), (1, .int (iZ (t))), (2, .int (iZ (i)))]) hx hb dX10_itemsIn_1 rfl hl (by decide) rfl (fun ls hl => ?_)
  refine lv_iload_n hx hb dX10_itemsIn_2 rfl (lv_at hl 3 rfl) ?_
  refine lv_iconst (v := iZ 1) hx hb dX10_itemsIn_3 rfl ?_
  refine lv_iadd hx hb dX10_itemsIn_4 ?_
  refine lv_topi (fun x9 ex9 => ?_)
  obtain rfl : x9 = iZ (i + 1) := ex9.trans (iZ_add _ _)
  refine lv_istore (lv' := [(4, .int (iZ (i + 1))), (3, .int (iZ (0))), (0, .ref h0), (1, .int (iZ (t))), (2, .int (iZ (i)))]) hx hb dX10_itemsIn_5 hl (by decide) rfl (fun ls hl => ?_)
  refine LX10_itemsIn_7 hx hb hml hown hts hK (Nat.le_of_ble_eq_true rfl) (Nat.le_of_ble_eq_true rfl) (Nat.le_of_ble_eq_true rfl) (Nat.le_of_ble_eq_true rfl) (μ) (t) (i) (w1) (by assumption) (by assumption) (by assumption) ?_ _ (0) (i + 1) (w1) μ s.heap [] ls (by rfl) (by rw [show (i + 1).toNat = i.toNat + 1 by omega]; exact hR) (by omega) (by omega) (Nat.lt_succ_self _) hP hS (lv_sub hl [0, 1, 2, 3, 4] rfl)
  · intro n_1 k_1 w_1 μ1_ H locs ls q1_1 q2_1 hP hS hl
    have hl : lv_has ls 5 [(3, .int (iZ (n_1)))] := hl
    refine lv_iload_n hx hb dX10_itemsIn_42 rfl (lv_at hl 0 rfl) ?_
    exact W.iret (v := iZ (n_1)) hx hb hr (fun t9 ht9 hW9 => ⟨⟨iZ (n_1), (μ1_, n_1), rfl, ⟨rfl, (by
                dsimp only
                exact ⟨q1_1, q2_1⟩)⟩, by rw [ht9]; exact hP, va_K.moved hW9.alike hK⟩, hS.F ht9⟩) hS.2.2 dX10_itemsIn_43
set_option maxHeartbeats 4000000 in
set_option maxRecDepth 100000 in
theorem LX10_lists_6 {p : Program} {l : Launch} {e : Env} {R : Room} {s : State} {m : MethodId} {args : Array Value} {below : List Frame} {meth : Method} {c : Code} {cells slots : Nat} {Q : State → Prop} {dC : Nat → ClassId} {dI : Nat → Nat → Nat} {h0 : Nat} {cI cZ cII cIII : ClassId} (hx : p.tables.exec = Jvm.exec) (hb : c.code = cX10_lists) (hml : c.maxLocals = 7) (hown : s.vm.findClass RX10 = some m.cls) (hts : ∀ w ∈ wsG, w.before args s = true) (hK : va_K (dC, dI) vwCl (mT cI cZ cII cIII) s) (hRf : 1 ≤ R.frames) (hRl : 14 ≤ R.locals) (hRc : cells ≤ R.cells) (hRs : slots ≤ R.slots) (μ0 : va_M) (t : Int) (a : Int) (b : Int) (q : Nat) (w0 : Rw) (ht : 0 ≤ t ∧ t < 70) (ha : 0 ≤ a ∧ b ≤ 900) (hq : (723 ≤ q ∧ q < 737) ∨ (738 ≤ q ∧ q < 752)) (h260 : rI w0 ≤ 260) (hexit39 : ∀ (n : Int) (i : Int) (w : Rw) (μ : va_M) (H : Heap) (locs : List Loc) (ls : Array Slot), (fr (fun x y => x = q) μ0 μ) → (n = rI w0) → (∀ m : Nat, m < rI w0 → μ q m = a + rO w0 m) → va_P (dC, dI) vwCl (fw (mE cI cZ cII cIII h0) h0 6325 μ) H → va_S (fA h0 6325 s.heap.size) s.heap H locs → lv_has ls 7 [(5, .int (iZ (n)))] → W p l e R s m args below meth c H locs cells slots Q (F0 m 39 ls [])) :
    ∀ (n9 : Nat) (n : Int) (i : Int) (w : Rw) (μ : va_M) (H : Heap) (locs : List Loc) (ls : Array Slot), (fr (fun x y => x = q) μ0 μ) → (RA μ0 t.toNat w i.toNat) → (i + rN w = b ∧ a ≤ i) → (n + rI w = rI w0 ∧ 0 ≤ n) → (∀ m : Nat, (m : Int) < n → μ q m = a + rO w0 m) → (∀ m : Nat, a + rO w0 (n.toNat + m) = i + rO w m) → rN w < n9 → va_P (dC, dI) vwCl (fw (mE cI cZ cII cIII h0) h0 6325 μ) H → va_S (fA h0 6325 s.heap.size) s.heap H locs → lv_has ls 7 [(6, .int (iZ (i))), (5, .int (iZ (n))), (0, .ref h0), (1, .int (iZ (t))), (3, .int (iZ (b))), (4, .ref (h0 + q))] → W p l e R s m args below meth c H locs cells slots Q (F0 m 6 ls []) := by
  intro n9
  induction n9 with
  | zero => intro n i w μ H locs ls hf hw hk hn hd hO hm9 hP hS hl; exact absurd hm9 (Nat.not_lt_zero _)
  | succ n9 ih =>
    intro n i w μ H locs ls hf hw hk hn hd hO hm9 hP hS hl
    refine lv_iload hx hb dX10_lists_6 (lv_at hl 0 rfl) ?_
    refine lv_iload_n hx hb dX10_lists_8 rfl (lv_at hl 4 rfl) ?_
    refine fz_icmp_ge (tgt := 39) (by constructor <;> omega) (by constructor <;> omega) hx hb dX10_lists_9 (by decide) (fun c9_ => ?_) (fun c9_ => ?_)
    · exact hexit39 (n) (i) (w) μ H locs ls (by exact hf) (by
                    obtain rfl := rw_0 (w := w) (by omega)
                    have h5 : rI (Std.DTreeMap.Internal.Impl.leaf : Rw) = 0 := rfl
                    omega) (by
                    obtain rfl := rw_0 (w := w) (by omega)
                    have h5 : rI (Std.DTreeMap.Internal.Impl.leaf : Rw) = 0 := rfl
                    intro m hm; exact hd m (by omega)) hP hS (lv_sub hl [1] rfl)
    · obtain ⟨z9, k9, v9, l9, w9, rfl⟩ := rw_ne (w := w) (by omega)
      obtain ⟨g1, g2, g3, g4, g5⟩ := hw
      have hn9 := rN_in (z := z9) (k := k9) (v := v9) (l := l9) (r := w9)
      have hi9 := rI_in (z := z9) (k := k9) (v := v9) (l := l9) (r := w9)
      have o9 := hO 0
      rw [Nat.add_zero] at o9
      have o8 : rO (Std.DTreeMap.Internal.Impl.inner z9 k9 v9 l9 w9 : Rw) 0 = 0 := rfl
      refine lv_aload hx hb dX10_lists_12 (lv_at hl 5 rfl) ?_
      refine lv_iload hx hb dX10_lists_14 (lv_at hl 1 rfl) ?_
      refine lv_iload hx hb dX10_lists_16 (lv_at hl 0 rfl) ?_
      refine fz_st (k := q) (n := 260) (i := n) (z := i) hx hb hK hP fA_in hS 0 (by omega) (mE_rowAny (by omega)) rfl ⟨by omega, by omega⟩ (by decide) dX10_lists_18 (fun H locs hP hS => ?_)
      obtain ⟨μ1, eμ1⟩ : ∃ x : va_M, x = uz μ q (n).toNat (i) := ⟨_, rfl⟩
      rw [← eμ1] at hP
      refine lv_iinc (v := iZ (n + 1)) (lv' := [(5, .int (iZ (n + 1))), (6, .int (iZ (i))), (0, .ref h0), (1, .int (iZ (t))), (3, .int (iZ (b))), (4, .ref (h0 + q))]) hx hb dX10_lists_19 hl (k := 1) rfl (iZ_add _ _) (by decide) rfl (fun ls hl => ?_)
      refine lv_iload hx hb dX10_lists_22 (lv_at hl 1 rfl) ?_
      refine lv_aload_n hx hb dX10_lists_24 rfl (lv_at hl 2 rfl) ?_
      refine fz_get (D := (dC, dI)) (ci := 10) (v := .ref (h0 + 648)) (C := RX10) (T := TX10) (N := 53) hx hb hts inG10 hown hK hP (k := 0) (by decide) (F := mF h0) mE_obj rfl 20 (by decide) (hts _ k1186) (fun _ h9 => h9) rfl dX10_lists_25 ?_
      refine lv_iload_n hx hb dX10_lists_28 rfl (lv_at hl 3 rfl) ?_
      refine fz_ald (k := 648) (n := 70) (k2 := (649 + (t).toNat)) hx hb hK hP 2 rfl (by decide) mE_span rfl ⟨by omega, by omega⟩ (by decide) (if_pos (by omega)) dX10_lists_29 ?_
      refine lv_iload hx hb dX10_lists_30 (lv_at hl 1 rfl) ?_
      refine fz_ld (k := (649 + (t).toNat)) (n := 900) hx hb hK hP 0 (by omega) (mE_spanR (by omega)) rfl ⟨by omega, by omega⟩ (by decide) dX10_lists_32 ?_
      rw [show μ1 (649 + (t).toNat) (i).toNat = 1 + (rN l9 : Int) from (by rw [eμ1, uz_n (by omega), hf _ _ (by show ¬ (649 + t.toNat = q); omega)]; exact g3)]
      refine lv_iadd hx hb dX10_lists_33 ?_
      refine lv_topi (fun x9 ex9 => ?_)
      obtain rfl : x9 = iZ (i + (1 + (rN l9 : Int))) := ex9.trans (iZ_add _ _)
      refine lv_istore (lv' := [(6, .int (iZ (i + (1 + (rN l9 : Int))))), (5, .int (iZ (n + 1))), (0, .ref h0), (1, .int (iZ (t))), (3, .int (iZ (b))), (4, .ref (h0 + q))]) hx hb dX10_lists_34 hl (by decide) rfl (fun ls hl => ?_)
      refine lv_goto (tgt := 6) hx hb dX10_lists_36 (by decide) ?_
      exact ih (n + 1) (i + (1 + (rN l9 : Int))) (w9) μ1 H locs ls (by subst eμ1; exact fr_uz hf rfl) (by rw [show (i + (1 + (rN l9 : Int))).toNat = i.toNat + 1 + rN l9 by omega]; exact g5) (by omega) (by omega) (by
                    intro m hm
                    subst eμ1
                    by_cases h9 : m = n.toNat
                    · subst h9; rw [uz_s]; omega
                    · rw [uz_n (by omega)]; exact hd m (by omega)) (by
                    intro m
                    have h9 := hO (m + 1)
                    have h8 : rO (Std.DTreeMap.Internal.Impl.inner z9 k9 v9 l9 w9 : Rw) (m + 1) = 1 + rN l9 + rO w9 m := rfl
                    rw [show (n + 1).toNat + m = n.toNat + (m + 1) by omega]
                    omega) (by omega) hP hS (lv_sub hl [0, 1, 2, 3, 4, 5] rfl)
set_option maxHeartbeats 4000000 in
set_option maxRecDepth 100000 in
theorem m_lists (l : Launch) (dC : Nat → ClassId) (dI : Nat → Nat → Nat) (cI cZ cII cIII : ClassId) (h0 sz : Nat) (μ : va_M) (t : Int) (a : Int) (b : Int) (q : Nat) (w : Rw) (ht : 0 ≤ t ∧ t < 70) (ha : 0 ≤ a ∧ b ≤ 900) (hb9 : b = a + rN w) (hR : RA μ t.toNat w a.toNat) (hq : (723 ≤ q ∧ q < 737) ∨ (738 ≤ q ∧ q < 752)) (h260 : rI w ≤ 260) : Met l yX10_lists (Cond.code yX10_lists cX10_lists 7 (some .int) :: wsG) ({ frames := 1, cells := 0, slots := 0, locals := 14 } : Room) (va_Pc [.ref h0, .int (iZ (t)), .int (iZ (a)), .int (iZ (b)), .ref (h0 + q)] (fun U => U.heap.size = sz ∧ va_P (dC, dI) vwCl (fw (mE cI cZ cII cIII h0) h0 6325 μ) U.heap ∧ va_K (dC, dI) vwCl (mT cI cZ cII cIII) U)) (va_Qi (fun (r9 : Int32) (u : va_M × Int) => r9 = iZ u.2 ∧ (fun (u : va_M) (r : Int) => r = rI w ∧ (∀ m : Nat, m < rI w → u q m = a + rO w m) ∧ fr (fun x y => x = q) μ u) u.1 u.2) (fun u t => va_P (dC, dI) vwCl (fw (mE cI cZ cII cIII h0) h0 6325 u.1) t.heap ∧ va_K (dC, dI) vwCl (mT cI cZ cII cIII) t) (fA h0 6325 sz)) 0 0 (fA h0 6325 sz) := by
  refine Met.ofW (cc := cX10_lists) (maxL := 7) (ret := (some .int)) (by decide) rfl ?_
  intro p e s m args below meth c s₁ B hml hv
  obtain ⟨rfl, hsz, hP, hK⟩ := hv
  have hx := B.exec
  have hb := B.bytes
  have hr := B.returns
  have hts : ∀ w ∈ wsG, w.before _ s = true := hG_of (atoms_spec (ws := (Cond.code yX10_lists cX10_lists 7 (some .int) :: wsG)) B.pre)
  have hown : s.vm.findClass RX10 = some m.cls := findClass_of_methodNamed B.named
  have hlocks := B.notSynchronized
  subst hsz
  have hS : va_S (fA h0 6325 s.heap.size) s.heap s.heap [] := va_S.rf
  have hl := lv_entry ([.ref h0, .int (iZ (t)), .int (iZ (a)), .int (iZ (b)), .ref (h0 + q)]) (n := 7) (Nat.le_of_ble_eq_true rfl)
  rw [lg_entry_eq]
  generalize (lg_sl ([.ref h0, .int (iZ (t)), .int (iZ (a)), .int (iZ (b)), .ref (h0 + q)]) ++ List.replicate (7 - (lg_sl ([.ref h0, .int (iZ (t)), .int (iZ (a)), .int (iZ (b)), .ref (h0 + q)])).length) Slot.unset).toArray = ls at hl ⊢
  have hl : lv_has ls 7 [(0, .ref h0), (1, .int (iZ (t))), (2, .int (iZ (a))), (3, .int (iZ (b))), (4, .ref (h0 + q))] := hl
  refine lv_iconst (v := iZ 0) hx hb dX10_lists_0 rfl ?_
  refine lv_istore (lv' := [(5, .int (iZ (0))), (0, .ref h0), (1, .int (iZ (t))), (2, .int (iZ (a))), (3, .int (iZ (b))), (4, .ref (h0 + q))]) hx hb dX10_lists_1 hl (by decide) rfl (fun ls hl => ?_)
  refine lv_iload_n hx hb dX10_lists_3 rfl (lv_at hl 3 rfl) ?_
  refine lv_istore (lv' := [(6, .int (iZ (a))), (5, .int (iZ (0))), (0, .ref h0), (1, .int (iZ (t))), (2, .int (iZ (a))), (3, .int (iZ (b))), (4, .ref (h0 + q))]) hx hb dX10_lists_4 hl (by decide) rfl (fun ls hl => ?_)
  refine LX10_lists_6 hx hb hml hown hts hK (Nat.le_of_ble_eq_true rfl) (Nat.le_of_ble_eq_true rfl) (Nat.le_of_ble_eq_true rfl) (Nat.le_of_ble_eq_true rfl) (μ) (t) (a) (b) (q) (w) (by assumption) (by assumption) (by assumption) (by assumption) ?_ _ (0) (a) (w) μ s.heap [] ls (by exact fr_rfl) (by exact hR) (by omega) (by omega) (by intro m hm; omega) (by intro m; simp) (Nat.lt_succ_self _) hP hS (lv_sub hl [0, 1, 2, 3, 5, 6] rfl)
  · intro n_2 i_2 w_2 μ2_ H locs ls q1_2 q2_2 q3_2 hP hS hl
    have hl : lv_has ls 7 [(5, .int (iZ (n_2)))] := hl
    refine lv_iload hx hb dX10_lists_39 (lv_at hl 0 rfl) ?_
    exact W.iret (v := iZ (n_2)) hx hb hr (fun t9 ht9 hW9 => ⟨⟨iZ (n_2), (μ2_, n_2), rfl, ⟨rfl, (by
                dsimp only
                exact ⟨q2_2, q3_2, q1_2⟩)⟩, by rw [ht9]; exact hP, va_K.moved hW9.alike hK⟩, hS.F ht9⟩) hS.2.2 dX10_lists_41

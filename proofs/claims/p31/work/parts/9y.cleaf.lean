set_option maxRecDepth 100000 in
theorem k714 : (Cond.methodLink "PageSkeleton$Leaf" (47 : Nat) ({ cls := "PageSkeleton$Row", name := "empty", desc := "()V" } : MethodName)) ∈ wsG := wsG_a3 234 rfl rfl
set_option maxRecDepth 100000 in
theorem k715 : (Cond.methodLink "PageSkeleton$Leaf" (50 : Nat) ({ cls := "java/lang/Math", name := "min", desc := "(II)I" } : MethodName)) ∈ wsG := wsG_a3 235 rfl rfl
set_option maxRecDepth 100000 in
theorem k716 : (Cond.methodLink "PageSkeleton$Leaf" (56 : Nat) ({ cls := "PageSkeleton$Texts", name := "sortOf", desc := "(I)I" } : MethodName)) ∈ wsG := wsG_a3 236 rfl rfl
set_option maxRecDepth 100000 in
theorem k717 : (Cond.instanceMethod ({ cls := "PageSkeleton$Texts", name := "sortOf", desc := "(I)I" } : MethodName)) ∈ wsG := wsG_a3 237 rfl rfl
set_option maxRecDepth 100000 in
theorem k718 : (Cond.selects "PageSkeleton$Texts" ({ cls := "PageSkeleton$Texts", name := "sortOf", desc := "(I)I" } : MethodName) ({ cls := "PageSkeleton$Texts", name := "sortOf", desc := "(I)I" } : MethodName)) ∈ wsG := wsG_a3 238 rfl rfl
set_option maxRecDepth 100000 in
theorem k719 : (Cond.code ({ cls := "PageSkeleton$Texts", name := "sortOf", desc := "(I)I" } : MethodName) prog_7_method_10_code (2 : Nat) (Option.some FieldType.int)) ∈ wsG := wsG_a3 239 rfl rfl
set_option maxRecDepth 100000 in
theorem k720 : (Cond.methodLink "PageSkeleton$Leaf" (62 : Nat) ({ cls := "PageSkeleton$Row", name := "put", desc := "(I)V" } : MethodName)) ∈ wsG := wsG_a4 0 rfl rfl
set_option maxRecDepth 100000 in
theorem k721 : (Cond.methodLink "PageSkeleton$Leaf" (65 : Nat) ({ cls := "PageSkeleton$Row", name := "seal", desc := "()V" } : MethodName)) ∈ wsG := wsG_a4 1 rfl rfl
theorem dX1_become_0 : decode cX1_become 0 = .ok (.aload_n 0, 1) := by decide +kernel
theorem dX1_become_1 : decode cX1_become 1 = .ok (.getfield 27, 3) := by decide +kernel
theorem dX1_become_4 : decode cX1_become 4 = .ok (.invokevirtual 47, 3) := by decide +kernel
theorem dX1_become_7 : decode cX1_become 7 = .ok (.aload_n 0, 1) := by decide +kernel
theorem dX1_become_8 : decode cX1_become 8 = .ok (.iload_n 2, 1) := by decide +kernel
theorem dX1_become_9 : decode cX1_become 9 = .ok (.bipush 60, 2) := by decide +kernel
theorem dX1_become_11 : decode cX1_become 11 = .ok (.invokestatic 50, 3) := by decide +kernel
theorem dX1_become_14 : decode cX1_become 14 = .ok (.putfield 18, 3) := by decide +kernel
theorem dX1_become_17 : decode cX1_become 17 = .ok (.iconst 0, 1) := by decide +kernel
theorem dX1_become_18 : decode cX1_become 18 = .ok (.istore 4, 2) := by decide +kernel
theorem dX1_become_20 : decode cX1_become 20 = .ok (.iload 4, 2) := by decide +kernel
theorem dX1_become_22 : decode cX1_become 22 = .ok (.aload_n 0, 1) := by decide +kernel
theorem dX1_become_23 : decode cX1_become 23 = .ok (.getfield 18, 3) := by decide +kernel
theorem dX1_become_26 : decode cX1_become 26 = .ok (.if_icmp .ge 68, 3) := by decide +kernel
theorem dX1_become_29 : decode cX1_become 29 = .ok (.aload_n 0, 1) := by decide +kernel
theorem dX1_become_30 : decode cX1_become 30 = .ok (.getfield 9, 3) := by decide +kernel
theorem dX1_become_33 : decode cX1_become 33 = .ok (.iload 4, 2) := by decide +kernel
theorem dX1_become_35 : decode cX1_become 35 = .ok (.aload_n 1, 1) := by decide +kernel
theorem dX1_become_36 : decode cX1_become 36 = .ok (.iload 4, 2) := by decide +kernel
theorem dX1_become_38 : decode cX1_become 38 = .ok (.iaload, 1) := by decide +kernel
theorem dX1_become_39 : decode cX1_become 39 = .ok (.iastore, 1) := by decide +kernel
theorem dX1_become_40 : decode cX1_become 40 = .ok (.aload_n 0, 1) := by decide +kernel
theorem dX1_become_41 : decode cX1_become 41 = .ok (.getfield 15, 3) := by decide +kernel
theorem dX1_become_44 : decode cX1_become 44 = .ok (.iload 4, 2) := by decide +kernel
theorem dX1_become_46 : decode cX1_become 46 = .ok (.aload_n 3, 1) := by decide +kernel
theorem dX1_become_47 : decode cX1_become 47 = .ok (.aload_n 1, 1) := by decide +kernel
theorem dX1_become_48 : decode cX1_become 48 = .ok (.iload 4, 2) := by decide +kernel
theorem dX1_become_50 : decode cX1_become 50 = .ok (.iaload, 1) := by decide +kernel
theorem dX1_become_51 : decode cX1_become 51 = .ok (.invokevirtual 56, 3) := by decide +kernel
theorem dX1_become_54 : decode cX1_become 54 = .ok (.iconst 2, 1) := by decide +kernel
theorem dX1_become_55 : decode cX1_become 55 = .ok (.if_icmp .ne 14, 3) := by decide +kernel
theorem dX1_become_58 : decode cX1_become 58 = .ok (.sipush 256, 3) := by decide +kernel
theorem dX1_become_61 : decode cX1_become 61 = .ok (.aload_n 1, 1) := by decide +kernel
theorem dX1_become_62 : decode cX1_become 62 = .ok (.iload 4, 2) := by decide +kernel
theorem dX1_become_64 : decode cX1_become 64 = .ok (.iaload, 1) := by decide +kernel
theorem dX1_become_65 : decode cX1_become 65 = .ok (.iadd, 1) := by decide +kernel
theorem dX1_become_66 : decode cX1_become 66 = .ok (.goto 7, 3) := by decide +kernel
theorem dX1_become_69 : decode cX1_become 69 = .ok (.aload_n 1, 1) := by decide +kernel
theorem dX1_become_70 : decode cX1_become 70 = .ok (.iload 4, 2) := by decide +kernel
theorem dX1_become_72 : decode cX1_become 72 = .ok (.iaload, 1) := by decide +kernel
theorem dX1_become_73 : decode cX1_become 73 = .ok (.iastore, 1) := by decide +kernel
theorem dX1_become_74 : decode cX1_become 74 = .ok (.aload_n 0, 1) := by decide +kernel
theorem dX1_become_75 : decode cX1_become 75 = .ok (.getfield 27, 3) := by decide +kernel
theorem dX1_become_78 : decode cX1_become 78 = .ok (.aload_n 0, 1) := by decide +kernel
theorem dX1_become_79 : decode cX1_become 79 = .ok (.getfield 15, 3) := by decide +kernel
theorem dX1_become_82 : decode cX1_become 82 = .ok (.iload 4, 2) := by decide +kernel
theorem dX1_become_84 : decode cX1_become 84 = .ok (.iaload, 1) := by decide +kernel
theorem dX1_become_85 : decode cX1_become 85 = .ok (.invokevirtual 62, 3) := by decide +kernel
theorem dX1_become_88 : decode cX1_become 88 = .ok (.iinc 4 1, 3) := by decide +kernel
theorem dX1_become_91 : decode cX1_become 91 = .ok (.goto (-71), 3) := by decide +kernel
theorem dX1_become_94 : decode cX1_become 94 = .ok (.aload_n 0, 1) := by decide +kernel
theorem dX1_become_95 : decode cX1_become 95 = .ok (.getfield 27, 3) := by decide +kernel
theorem dX1_become_98 : decode cX1_become 98 = .ok (.invokevirtual 65, 3) := by decide +kernel
theorem dX1_become_101 : decode cX1_become 101 = .ok (.return_, 1) := by decide +kernel
theorem dX5_sortOf_0 : decode cX5_sortOf 0 = .ok (.aload_n 0, 1) := by decide +kernel
theorem dX5_sortOf_1 : decode cX5_sortOf 1 = .ok (.getfield 19, 3) := by decide +kernel
theorem dX5_sortOf_4 : decode cX5_sortOf 4 = .ok (.iload_n 1, 1) := by decide +kernel
theorem dX5_sortOf_5 : decode cX5_sortOf 5 = .ok (.iaload, 1) := by decide +kernel
theorem dX5_sortOf_6 : decode cX5_sortOf 6 = .ok (.iconst 3, 1) := by decide +kernel
theorem dX5_sortOf_7 : decode cX5_sortOf 7 = .ok (.irem, 1) := by decide +kernel
theorem dX5_sortOf_8 : decode cX5_sortOf 8 = .ok (.ireturn, 1) := by decide +kernel
theorem dX7_isThrough_0 : decode cX7_isThrough 0 = .ok (.aload_n 0, 1) := by decide +kernel
theorem dX7_isThrough_1 : decode cX7_isThrough 1 = .ok (.getfield 15, 3) := by decide +kernel
theorem dX7_isThrough_4 : decode cX7_isThrough 4 = .ok (.ifCond .le 7, 3) := by decide +kernel
theorem dX7_isThrough_7 : decode cX7_isThrough 7 = .ok (.iconst 1, 1) := by decide +kernel
theorem dX7_isThrough_8 : decode cX7_isThrough 8 = .ok (.goto 4, 3) := by decide +kernel
theorem dX7_isThrough_11 : decode cX7_isThrough 11 = .ok (.iconst 0, 1) := by decide +kernel
theorem dX7_isThrough_12 : decode cX7_isThrough 12 = .ok (.ireturn, 1) := by decide +kernel
/-! a row loaded, once more: what its flag is; a leaf -/
theorem LEw_4 {q n x y : Nat} (h : LEw q n x y) : LEq q x y := h.1
/-- a leaf, as it stands between calls -/
def lfOK (μ : va_M) (b : Nat) : Prop := ((0 ≤ μ b 2 ∧ μ b 2 ≤ 60) ∧ 0 ≤ μ b 5 ∧ μ b 5 ≤ 60) ∧ (∀ j, 0 ≤ μ (b + 1) j ∧ μ (b + 1) j < 200) ∧ (∀ j, 0 ≤ μ (b + 2) j ∧ μ (b + 2) j ≤ 515) ∧ rG μ (b + 3) 96
def LfB (b x y : Nat) : Prop := (x = b ∧ y = 2) ∨ (b + 1 ≤ x ∧ x ≤ b + 8)
theorem lf_b {b ii : Nat} (hb : b = 113 + ii * 15) (hi : ii < 8) : 113 ≤ b ∧ b + 15 ≤ 233 := by omega
theorem outS_ap {μ u : va_M} {q rm : Nat} {d : Int} (h : outS μ q rm d) (hf : ∀ x y, (x = q ∨ x = q + 1) → u x y = μ x y) : outS u q rm d := outS_fr h (fun y => hf _ _ (Or.inl rfl)) (fun y => hf _ _ (Or.inr rfl))
set_option maxHeartbeats 4000000 in
set_option maxRecDepth 100000 in
theorem LJ7_fill_53178_5 {p : Program} {l : Launch} {e : Env} {R : Room} {s : State} {m : MethodId} {args : Array Value} {below : List Frame} {meth : Method} {c : Code} {cells slots : Nat} {Q : State → Prop} {dC : Nat → ClassId} {dI : Nat → Nat → Nat} {h0 : Nat} {cI cZ cII cIII : ClassId} (hx : p.tables.exec = Jvm.exec) (hb : c.code = cJ7_fill_53178) (hml : c.maxLocals = 4) (hown : s.vm.findClass RJ7 = some m.cls) (hts : ∀ w ∈ wsG, w.before args s = true) (hK : va_K (dC, dI) vwCl (sT cI cZ cII cIII) s) (hM : xM s) (hRf : 1 ≤ R.frames) (hRl : 14 ≤ R.locals) (hRc : cells ≤ R.cells) (hRs : slots ≤ R.slots) (μ0 : va_M) (kc : Nat) (nc : Nat) (v : Int) (hkc : kc < 233 ∧ nc ≤ 1101) (hE : ∀ f, sE cI cZ cII cIII h0 kc f = .inl (cI, nc, .inl f)) (hexit20 : ∀ (i : Int) (μ : va_M) (H : Heap) (locs : List Loc) (ls : Array Slot), (fr (fun x _ => x = kc) μ0 μ) → (∀ j : Nat, j < nc → μ kc j = v) → va_P (dC, dI) vwCl (fw (sE cI cZ cII cIII h0) h0 233 μ) H → va_S (fA h0 233 s.heap.size) s.heap H locs → lv_has ls 4 [] → W p l e R s m args below meth c H locs cells slots Q (F0 m 20 ls [])) :
    ∀ (n9 : Nat) (i : Int) (μ : va_M) (H : Heap) (locs : List Loc) (ls : Array Slot), (0 ≤ i ∧ i ≤ nc) → (fr (fun x _ => x = kc) μ0 μ) → (∀ j : Nat, (j : Int) < i → μ kc j = v) → (1102 - i).toNat < n9 → va_P (dC, dI) vwCl (fw (sE cI cZ cII cIII h0) h0 233 μ) H → va_S (fA h0 233 s.heap.size) s.heap H locs → lv_has ls 4 [(2, .int (iZ (i))), (3, .int (iZ (((nc : Nat) : Int)))), (0, .ref (h0 + kc)), (1, .int (iZ (v)))] → W p l e R s m args below meth c H locs cells slots Q (F0 m 5 ls []) := by
  intro n9
  induction n9 with
  | zero => intro i μ H locs ls hi hf hv hm9 hP hS hl; exact absurd hm9 (Nat.not_lt_zero _)
  | succ n9 ih =>
    intro i μ H locs ls hi hf hv hm9 hP hS hl
    refine lv_iload_n hx hb dJ7_fill_53178_5 rfl (lv_at hl 0 rfl) ?_
    refine lv_iload_n hx hb dJ7_fill_53178_6 rfl (lv_at hl 1 rfl) ?_
    refine fz_icmp_ge (tgt := 20) (by constructor <;> (first | ((try clear hm9); (try clear hf); (try clear hexit20); (try clear hE); (try clear hRs); (try clear hRc); (try clear hRl); (try clear hRf); omega) | omega)) (by constructor <;> (first | ((try clear hm9); (try clear hf); (try clear hi); (try clear hexit20); (try clear hE); (try clear hRs); (try clear hRc); (try clear hRl); (try clear hRf); omega) | omega)) hx hb dJ7_fill_53178_7 (by decide) (fun c7_ => ?_) (fun c7_ => ?_)
    · exact hexit20 (i) μ H locs ls (by exact hf) (by intro j hj; exact hv j (by (first | ((try clear hm9); (try clear hf); (try clear hexit20); (try clear hE); (try clear hkc); (try clear hRs); (try clear hRc); (try clear hRl); (try clear hRf); omega) | omega))) hP hS (lv_sub hl [] rfl)
    · refine lv_aload_n hx hb dJ7_fill_53178_10 rfl (lv_at hl 2 rfl) ?_
      refine lv_iload_n hx hb dJ7_fill_53178_11 rfl (lv_at hl 0 rfl) ?_
      refine lv_iload_n hx hb dJ7_fill_53178_12 rfl (lv_at hl 3 rfl) ?_
      refine fz_st (k := kc) (n := nc) (i := i) (z := v) hx hb hK hP fA_in hS 0 (by (first | ((try clear c7_); (try clear hm9); (try clear hf); (try clear hi); (try clear hexit20); (try clear hE); (try clear hRs); (try clear hRc); (try clear hRl); (try clear hRf); omega) | omega)) hE rfl ⟨by (first | ((try clear c7_); (try clear hm9); (try clear hf); (try clear hexit20); (try clear hE); (try clear hkc); (try clear hRs); (try clear hRc); (try clear hRl); (try clear hRf); omega) | omega), by (first | ((try clear hm9); (try clear hf); (try clear hi); (try clear hexit20); (try clear hE); (try clear hkc); (try clear hRs); (try clear hRc); (try clear hRl); (try clear hRf); omega) | omega)⟩ (by (first | ((try clear c7_); (try clear hm9); (try clear hf); (try clear hi); (try clear hexit20); (try clear hE); (try clear hRs); (try clear hRc); (try clear hRl); (try clear hRf); omega) | omega)) dJ7_fill_53178_13 (fun H locs hP hS => ?_)
      obtain ⟨μ1, eμ1⟩ : ∃ x : va_M, x = uz μ kc (i).toNat (v) := ⟨_, rfl⟩
      rw [← eμ1] at hP
      refine lv_iinc (v := iZ (i + 1)) (lv' := [(2, .int (iZ (i + 1))), (3, .int (iZ (((nc : Nat) : Int)))), (0, .ref (h0 + kc)), (1, .int (iZ (v)))]) hx hb dJ7_fill_53178_14 hl (k := 0) rfl (iZ_add _ _) (by decide) rfl (fun ls hl => ?_)
      refine lv_goto (tgt := 5) hx hb dJ7_fill_53178_17 (by decide) ?_
      exact ih (i + 1) μ1 H locs ls (by (first | ((try clear x); (try clear eμ1); (try clear μ1); (try clear hm9); (try clear hf); (try clear hexit20); (try clear hE); (try clear hkc); (try clear hRs); (try clear hRc); (try clear hRl); (try clear hRf); omega) | omega)) (by rw [eμ1]; exact fr_uz hf rfl) (by
                    intro j hj
                    by_cases h9 : j = i.toNat
                    · rw [h9, eμ1, uz_s]
                    · rw [eμ1, uz_n (by (first | ((try clear hj); (try clear x); (try clear eμ1); (try clear μ1); (try clear c7_); (try clear hm9); (try clear hf); (try clear hi); (try clear hexit20); (try clear hE); (try clear hkc); (try clear hRs); (try clear hRc); (try clear hRl); (try clear hRf); omega) | omega))]; exact hv j (by (first | ((try clear x); (try clear eμ1); (try clear μ1); (try clear c7_); (try clear hm9); (try clear hf); (try clear hexit20); (try clear hE); (try clear hkc); (try clear hRs); (try clear hRc); (try clear hRl); (try clear hRf); omega) | omega))) (by (first | ((try clear h9); (try clear hj); (try clear x); (try clear eμ1); (try clear μ1); (try clear hf); (try clear hexit20); (try clear hE); (try clear hRs); (try clear hRc); (try clear hRl); (try clear hRf); omega) | omega)) hP hS (lv_sub hl [0, 1, 2, 3] rfl)
set_option maxHeartbeats 4000000 in
set_option maxRecDepth 100000 in
theorem s_fill (l : Launch) (dC : Nat → ClassId) (dI : Nat → Nat → Nat) (cI cZ cII cIII : ClassId) (h0 sz : Nat) (μ : va_M) (kc : Nat) (nc : Nat) (v : Int) (hkc : kc < 233 ∧ nc ≤ 1101) (hE : ∀ f, sE cI cZ cII cIII h0 kc f = .inl (cI, nc, .inl f)) : Met l yJ7_fill_53178 (Cond.code yJ7_fill_53178 cJ7_fill_53178 4 none :: wsG) ({ frames := 1, cells := 0, slots := 0, locals := 14 } : Room) (va_Pc [.ref (h0 + kc), .int (iZ (v))] (fun U => U.heap.size = sz ∧ va_P (dC, dI) vwCl (fw (sE cI cZ cII cIII h0) h0 233 μ) U.heap ∧ va_K (dC, dI) vwCl (sT cI cZ cII cIII) U ∧ xM U)) (va_Qv (fun (u : va_M) => fr (fun x _ => x = kc) μ u ∧ ∀ j : Nat, j < nc → u kc j = v) (fun u t => va_P (dC, dI) vwCl (fw (sE cI cZ cII cIII h0) h0 233 u) t.heap ∧ va_K (dC, dI) vwCl (sT cI cZ cII cIII) t) (fA h0 233 sz)) 0 0 (fA h0 233 sz) := by
  refine Met.ofW (cc := cJ7_fill_53178) (maxL := 4) (ret := none) (by decide) rfl ?_
  intro p e s m args below meth c s₁ B hml hv
  obtain ⟨rfl, hsz, hP, hK, hM⟩ := hv
  have hx := B.exec
  have hb := B.bytes
  have hr := B.returns
  have hts : ∀ w ∈ wsG, w.before _ s = true := hG_of (atoms_spec (ws := (Cond.code yJ7_fill_53178 cJ7_fill_53178 4 none :: wsG)) B.pre)
  have hown : s.vm.findClass RJ7 = some m.cls := findClass_of_methodNamed B.named
  have hlocks := B.notSynchronized
  subst hsz
  have hS : va_S (fA h0 233 s.heap.size) s.heap s.heap [] := va_S.rf
  have hl := lv_entry ([.ref (h0 + kc), .int (iZ (v))]) (n := 4) (Nat.le_of_ble_eq_true rfl)
  rw [lg_entry_eq]
  generalize (lg_sl ([.ref (h0 + kc), .int (iZ (v))]) ++ List.replicate (4 - (lg_sl ([.ref (h0 + kc), .int (iZ (v))])).length) Slot.unset).toArray = ls at hl ⊢
  have hl : lv_has ls 4 [(0, .ref (h0 + kc)), (1, .int (iZ (v)))] := hl
  refine lv_iconst (v := iZ 0) hx hb dJ7_fill_53178_0 rfl ?_
  refine lv_istore_n (lv' := [(2, .int (iZ (0))), (0, .ref (h0 + kc)), (1, .int (iZ (v)))]) hx hb dJ7_fill_53178_1 rfl hl (by decide) rfl (fun ls hl => ?_)
  refine lv_aload_n hx hb dJ7_fill_53178_2 rfl (lv_at hl 1 rfl) ?_
  refine fz_len (k := kc) (n := nc) hx hb hK hP 0 (by (first | ((try clear hsz); (try clear s₁); (try clear hE); omega) | omega)) hE rfl dJ7_fill_53178_3 ?_
  refine lv_istore_n (lv' := [(3, .int (iZ (((nc : Nat) : Int)))), (2, .int (iZ (0))), (0, .ref (h0 + kc)), (1, .int (iZ (v)))]) hx hb dJ7_fill_53178_4 rfl hl (by decide) rfl (fun ls hl => ?_)
  refine LJ7_fill_53178_5 hx hb hml hown hts hK hM (Nat.le_of_ble_eq_true rfl) (Nat.le_of_ble_eq_true rfl) (Nat.le_of_ble_eq_true rfl) (Nat.le_of_ble_eq_true rfl) (μ) (kc) (nc) (v) (by assumption) (by exact hE) ?_ _ (0) μ s.heap [] ls (by (first | ((try clear hsz); (try clear s₁); (try clear hE); omega) | omega)) (by exact fr_rfl) (by intro j hj; (first | ((try clear hsz); (try clear s₁); (try clear hE); (try clear hkc); omega) | omega)) (Nat.lt_succ_self _) hP hS (lv_sub hl [1, 0, 2, 3] rfl)
  · intro i_2 μ2_ H locs ls q1_2 q2_2 hP hS hl
    have hl : lv_has ls 4 [] := hl
    exact W.vret hx hb hr (fun t9 ht9 hW9 => ⟨⟨μ2_, rfl, (by
                try dsimp only
                exact ⟨q1_2, q2_2⟩), by rw [ht9]; exact hP, va_K.moved hW9.alike hK⟩, hS.F ht9⟩) hS.2.2 dJ7_fill_53178_20
set_option maxHeartbeats 4000000 in
set_option maxRecDepth 100000 in
theorem LX4_load_6b {p : Program} {l : Launch} {e : Env} {R : Room} {s : State} {m : MethodId} {args : Array Value} {below : List Frame} {meth : Method} {c : Code} {cells slots : Nat} {Q : State → Prop} {dC : Nat → ClassId} {dI : Nat → Nat → Nat} {h0 : Nat} {cI cZ cII cIII : ClassId} (hx : p.tables.exec = Jvm.exec) (hb : c.code = cX4_load) (hml : c.maxLocals = 4) (hown : s.vm.findClass RX4 = some m.cls) (hts : ∀ w ∈ wsG, w.before args s = true) (hK : va_K (dC, dI) vwCl (sT cI cZ cII cIII) s) (hM : xM s) (hRf : 3 ≤ R.frames) (hRl : 58 ≤ R.locals) (hRc : cells ≤ R.cells) (hRs : slots ≤ R.slots) (μ0 : va_M) (q : Nat) (rm : Nat) (kc : Nat) (nc : Nat) (cnt : Int) (hq : rowB q rm) (hkc : kc < 233 ∧ (kc < q ∨ q + 6 ≤ kc) ∧ nc ≤ 1101) (hE : ∀ f, sE cI cZ cII cIII h0 kc f = .inl (cI, nc, .inl f)) (hcn : 0 ≤ cnt ∧ cnt ≤ nc) (hexit30 : ∀ (i : Int) (μ : va_M) (H : Heap) (locs : List Loc) (ls : Array Slot), (fr (fun x _ => x = q ∨ x = q + 1) μ0 μ) → ((cnt ≤ rm ∧ μ q 5 = cnt ∧ μ q 7 = 0) ∨ (rm < cnt ∧ μ q 5 = rm ∧ μ q 7 = 1)) → (∀ j : Nat, (j : Int) < cnt → j < rm → μ (q + 1) j = μ0 kc j) → (∀ j : Nat, μ (q + 1) j = μ0 (q + 1) j ∨ μ (q + 1) j = μ0 kc j) → va_P (dC, dI) vwCl (fw (sE cI cZ cII cIII h0) h0 233 μ) H → va_S (fA h0 233 s.heap.size) s.heap H locs → lv_has ls 4 [(0, .ref (h0 + q))] → W p l e R s m args below meth c H locs cells slots Q (F0 m 30 ls [])) :
    ∀ (n9 : Nat) (i : Int) (μ : va_M) (H : Heap) (locs : List Loc) (ls : Array Slot), (0 ≤ i ∧ i ≤ cnt) → (fr (fun x _ => x = q ∨ x = q + 1) μ0 μ) → ((i ≤ rm ∧ μ q 5 = i ∧ μ q 7 = 0) ∨ (rm < i ∧ μ q 5 = rm ∧ μ q 7 = 1)) → (∀ j : Nat, (j : Int) < i → j < rm → μ (q + 1) j = μ0 kc j) → (∀ j : Nat, μ (q + 1) j = μ0 (q + 1) j ∨ μ (q + 1) j = μ0 kc j) → (1102 - i).toNat < n9 → va_P (dC, dI) vwCl (fw (sE cI cZ cII cIII h0) h0 233 μ) H → va_S (fA h0 233 s.heap.size) s.heap H locs → lv_has ls 4 [(3, .int (iZ (i))), (2, .int (iZ (cnt))), (1, .ref (h0 + kc)), (0, .ref (h0 + q))] → W p l e R s m args below meth c H locs cells slots Q (F0 m 6 ls []) := by
  intro n9
  induction n9 with
  | zero => intro i μ H locs ls hi hf hs hc hg hm9 hP hS hl; exact absurd hm9 (Nat.not_lt_zero _)
  | succ n9 ih =>
    intro i μ H locs ls hi hf hs hc hg hm9 hP hS hl
    have hqb := rowB_b hq
    refine lv_iload_n hx hb dX4_load_6 rfl (lv_at hl 0 rfl) ?_
    refine lv_iload_n hx hb dX4_load_7 rfl (lv_at hl 1 rfl) ?_
    refine fz_icmp_ge (tgt := 30) (by constructor <;> (first | ((try clear hqb); (try clear hm9); (try clear hg); (try clear hc); (try clear hs); (try clear hf); (try clear hexit30); (try clear hE); (try clear hRs); (try clear hRc); (try clear hRl); (try clear hRf); omega) | omega)) (by constructor <;> (first | ((try clear hqb); (try clear hm9); (try clear hg); (try clear hc); (try clear hs); (try clear hf); (try clear hi); (try clear hexit30); (try clear hE); (try clear hRs); (try clear hRc); (try clear hRl); (try clear hRf); omega) | omega)) hx hb dX4_load_8 (by decide) (fun c8_ => ?_) (fun c8_ => ?_)
    · exact hexit30 (i) μ H locs ls (by exact hf) (by
                    have : i = cnt := by (first | ((try clear hqb); (try clear hm9); (try clear hg); (try clear hc); (try clear hs); (try clear hf); (try clear hexit30); (try clear hcn); (try clear hE); (try clear hkc); (try clear hRs); (try clear hRc); (try clear hRl); (try clear hRf); omega) | omega)
                    rw [← this]; exact hs) (by intro j hj hj2; exact hc j (by (first | ((try clear hj2); (try clear hqb); (try clear hm9); (try clear hg); (try clear hc); (try clear hs); (try clear hf); (try clear hexit30); (try clear hcn); (try clear hE); (try clear hkc); (try clear hRs); (try clear hRc); (try clear hRl); (try clear hRf); omega) | omega)) hj2) (by exact hg) hP hS (lv_sub hl [3] rfl)
    · refine lv_iload_n hx hb dX4_load_11 rfl (lv_at hl 0 rfl) ?_
      refine lv_aload_n hx hb dX4_load_12 rfl (lv_at hl 2 rfl) ?_
      refine fz_len (k := kc) (n := nc) hx hb hK hP 0 (by (first | ((try clear c8_); (try clear hqb); (try clear hm9); (try clear hg); (try clear hc); (try clear hs); (try clear hf); (try clear hi); (try clear hexit30); (try clear hcn); (try clear hE); (try clear hRs); (try clear hRc); (try clear hRl); (try clear hRf); omega) | omega)) hE rfl dX4_load_13 ?_
      refine fz_icmp_ge (tgt := 30) (by constructor <;> (first | ((try clear hqb); (try clear hm9); (try clear hg); (try clear hc); (try clear hs); (try clear hf); (try clear hexit30); (try clear hE); (try clear hRs); (try clear hRc); (try clear hRl); (try clear hRf); omega) | omega)) (by constructor <;> (first | ((try clear c8_); (try clear hqb); (try clear hm9); (try clear hg); (try clear hc); (try clear hs); (try clear hf); (try clear hi); (try clear hexit30); (try clear hcn); (try clear hE); (try clear hRs); (try clear hRc); (try clear hRl); (try clear hRf); omega) | omega)) hx hb dX4_load_14 (by decide) (fun c14_ => ?_) (fun c14_ => ?_)
      · exact hexit30 (i) μ H locs ls (by exact hf) (by
                        have : i = cnt := by (first | ((try clear hqb); (try clear hm9); (try clear hg); (try clear hc); (try clear hs); (try clear hf); (try clear hi); (try clear hexit30); (try clear hE); (try clear hkc); (try clear hRs); (try clear hRc); (try clear hRl); (try clear hRf); omega) | omega)
                        rw [← this]; exact hs) (by intro j hj hj2; exact hc j (by (first | ((try clear hj2); (try clear hj); (try clear hqb); (try clear hm9); (try clear hg); (try clear hc); (try clear hs); (try clear hf); (try clear hi); (try clear hexit30); (try clear hE); (try clear hkc); (try clear hRs); (try clear hRc); (try clear hRl); (try clear hRf); omega) | omega)) hj2) (by exact hg) hP hS (lv_sub hl [3] rfl)
      · refine lv_aload_n hx hb dX4_load_17 rfl (lv_at hl 3 rfl) ?_
        refine lv_aload_n hx hb dX4_load_18 rfl (lv_at hl 2 rfl) ?_
        refine lv_iload_n hx hb dX4_load_19 rfl (lv_at hl 0 rfl) ?_
        refine fz_ld (k := kc) (n := nc) hx hb hK hP 0 (by (first | ((try clear c14_); (try clear c8_); (try clear hqb); (try clear hm9); (try clear hg); (try clear hc); (try clear hs); (try clear hf); (try clear hi); (try clear hexit30); (try clear hcn); (try clear hE); (try clear hRs); (try clear hRc); (try clear hRl); (try clear hRf); omega) | omega)) hE rfl ⟨by (first | ((try clear c14_); (try clear c8_); (try clear hqb); (try clear hm9); (try clear hg); (try clear hc); (try clear hs); (try clear hf); (try clear hexit30); (try clear hcn); (try clear hE); (try clear hkc); (try clear hRs); (try clear hRc); (try clear hRl); (try clear hRf); omega) | omega), by (first | ((try clear c8_); (try clear hqb); (try clear hm9); (try clear hg); (try clear hc); (try clear hs); (try clear hf); (try clear hi); (try clear hexit30); (try clear hcn); (try clear hE); (try clear hkc); (try clear hRs); (try clear hRc); (try clear hRl); (try clear hRf); omega) | omega)⟩ (by (first | ((try clear c14_); (try clear c8_); (try clear hqb); (try clear hm9); (try clear hg); (try clear hc); (try clear hs); (try clear hf); (try clear hi); (try clear hexit30); (try clear hcn); (try clear hE); (try clear hRs); (try clear hRc); (try clear hRl); (try clear hRf); omega) | omega)) dX4_load_20 ?_
        refine va_callv (va_runV (As := [.int (iZ (μ kc (i).toNat))]) (rest := []) ⟨hx, hb, hml, hown, hts⟩ (s_Rput l dC dI cI cZ cII cIII h0 H.size μ (q) (rm) (μ kc (i).toNat) (hq) (by first | assumption | (first | ((try clear c8_); (try clear hm9); (try clear hg); (try clear hc); (try clear hf); (try clear hexit30); (try clear hcn); (try clear hE); (try clear hRs); (try clear hRc); (try clear hRl); (try clear hRf); omega) | omega) | exact ⟨by omega, by omega⟩)) (cwV 1 hts (gV_G k410 k411 k412 k3 k413) rfl rfl rfl (by decide +kernel) ⟨by show 1 + 1 ≤ _; (first | ((try clear c14_); (try clear c8_); (try clear hqb); (try clear hm9); (try clear hg); (try clear hc); (try clear hs); (try clear hf); (try clear hi); (try clear hexit30); (try clear hcn); (try clear hE); (try clear hkc); (try clear hRs); (try clear hRc); (try clear hRl); omega) | omega), by show 8 + (2 + 11) + (14) ≤ _; (first | ((try clear c14_); (try clear c8_); (try clear hqb); (try clear hm9); (try clear hg); (try clear hc); (try clear hs); (try clear hf); (try clear hi); (try clear hexit30); (try clear hcn); (try clear hE); (try clear hkc); (try clear hRs); (try clear hRc); (try clear hRf); omega) | omega)⟩) ⟨fun a U g mk q => by obtain ⟨q0, q1, qP, qK, qM⟩ := q; exact ⟨q0, q1, qP, va_K.moved (u := U) (U := U.calling g mk a) (Vm.Alike.refl U.vm) qK, qM⟩, va_recv hK hP (ci := 4) (q0 := q) rfl ((fw_get (by (first | ((try clear mk); (try clear g); (try clear U); (try clear c14_); (try clear c8_); (try clear hm9); (try clear hg); (try clear hc); (try clear hs); (try clear hf); (try clear hi); (try clear hexit30); (try clear hcn); (try clear hE); (try clear hkc); (try clear hRs); (try clear hRc); (try clear hRl); (try clear hRf); omega) | omega))).trans (by rw [(sE_rowO hq)])), fun U hU hW => ⟨rfl, by rw [hU], by rw [hU]; exact hP, va_K.moved hW.alike hK, xM_warm hW hM⟩⟩ rfl rfl hl.1 rfl (lv_room (Nat.le_of_ble_eq_true rfl)) dX4_load_21 ⟨hRc, hRs⟩) hS (fun q _ h => fA_le hS.1 q h) (fA_le hS.1) (fun u9 t9 H1 locs ht9 hvm9 hw9 hB9 hz9 hk9 hS => ?_)
        obtain ⟨hP, -⟩ := hB9
        rw [ht9] at hP
        generalize H1 = H at hP hS ⊢
        obtain ⟨μp, eμp⟩ : ∃ x : va_M, x = u9 := ⟨_, rfl⟩
        rw [← eμp] at hP hw9
        have hμp := hw9; clear hw9
        obtain ⟨c1, c2⟩ := hμp
        have ek : μ kc i.toNat = μ0 kc i.toNat := hf _ _ (by (first | ((try clear ek); (try clear hμp); (try clear x); (try clear eμp); (try clear hz9); (try clear c8_); (try clear hm9); (try clear hg); (try clear hc); (try clear hf); (try clear hexit30); (try clear hcn); (try clear hE); (try clear hRs); (try clear hRc); (try clear hRl); (try clear hRf); omega) | omega))
        have e5 : (μ q 5 < rm → (μ q 5).toNat = i.toNat ∧ i < rm) := fun h => by (first | ((try clear e5); (try clear ek); (try clear hμp); (try clear x); (try clear eμp); (try clear hz9); (try clear c8_); (try clear hm9); (try clear hg); (try clear hc); (try clear hf); (try clear hexit30); (try clear hcn); (try clear hE); (try clear hRs); (try clear hRc); (try clear hRl); (try clear hRf); omega) | omega)
        have hfp : fr (fun x _ => x = q ∨ x = q + 1) μ μp := by
          by_cases h9 : μ q 5 < rm
          · rw [c1 h9]; exact fr_uz (fr_uz fr_rfl (Or.inr rfl)) (Or.inl rfl)
          · rw [c2 h9]; exact fr_uz fr_rfl (Or.inl rfl)
        refine lv_iinc (v := iZ (i + 1)) (lv' := [(3, .int (iZ (i + 1))), (2, .int (iZ (cnt))), (1, .ref (h0 + kc)), (0, .ref (h0 + q))]) hx hb dX4_load_24 hl (k := 0) rfl (iZ_add _ _) (by decide) rfl (fun ls hl => ?_)
        refine lv_goto (tgt := 6) hx hb dX4_load_27 (by decide) ?_
        exact ih (i + 1) μp H locs ls (by (first | ((try clear hfp); (try clear e5); (try clear ek); (try clear c2); (try clear c1); (try clear hμp); (try clear x); (try clear eμp); (try clear μp); (try clear hz9); (try clear c14_); (try clear hqb); (try clear hm9); (try clear hg); (try clear hc); (try clear hs); (try clear hf); (try clear hexit30); (try clear hcn); (try clear hE); (try clear hkc); (try clear hRs); (try clear hRc); (try clear hRl); (try clear hRf); omega) | omega)) (by exact fr_trans hf hfp) (by
                        by_cases h9 : μ q 5 < rm
                        · refine Or.inl ⟨by (first | ((try clear hfp); (try clear ek); (try clear c2); (try clear c1); (try clear hμp); (try clear x); (try clear eμp); (try clear μp); (try clear hz9); (try clear c14_); (try clear c8_); (try clear hqb); (try clear hm9); (try clear hg); (try clear hc); (try clear hs); (try clear hf); (try clear hi); (try clear hexit30); (try clear hcn); (try clear hE); (try clear hkc); (try clear hRs); (try clear hRc); (try clear hRl); (try clear hRf); omega) | omega), ?_, ?_⟩
                          · rw [c1 h9, uz_s]; (first | ((try clear hfp); (try clear ek); (try clear hμp); (try clear x); (try clear eμp); (try clear hz9); (try clear c14_); (try clear c8_); (try clear hm9); (try clear hg); (try clear hc); (try clear hf); (try clear hexit30); (try clear hcn); (try clear hE); (try clear hkc); (try clear hRs); (try clear hRc); (try clear hRl); (try clear hRf); omega) | omega)
                          · rw [c1 h9, uz_n (by (first | ((try clear h9); (try clear hfp); (try clear e5); (try clear ek); (try clear c2); (try clear c1); (try clear hμp); (try clear x); (try clear eμp); (try clear μp); (try clear hz9); (try clear c14_); (try clear c8_); (try clear hqb); (try clear hm9); (try clear hg); (try clear hc); (try clear hs); (try clear hf); (try clear hi); (try clear hexit30); (try clear hcn); (try clear hE); (try clear hkc); (try clear hRs); (try clear hRc); (try clear hRl); (try clear hRf); omega) | omega)), uz_n (by (first | ((try clear h9); (try clear hfp); (try clear e5); (try clear ek); (try clear c2); (try clear c1); (try clear hμp); (try clear x); (try clear eμp); (try clear μp); (try clear hz9); (try clear c14_); (try clear c8_); (try clear hqb); (try clear hm9); (try clear hg); (try clear hc); (try clear hs); (try clear hf); (try clear hi); (try clear hexit30); (try clear hcn); (try clear hE); (try clear hkc); (try clear hRs); (try clear hRc); (try clear hRl); (try clear hRf); omega) | omega))]; (first | ((try clear hfp); (try clear ek); (try clear hμp); (try clear x); (try clear eμp); (try clear hz9); (try clear c14_); (try clear c8_); (try clear hm9); (try clear hg); (try clear hc); (try clear hf); (try clear hexit30); (try clear hcn); (try clear hE); (try clear hkc); (try clear hRs); (try clear hRc); (try clear hRl); (try clear hRf); omega) | omega)
                        · refine Or.inr ⟨by (first | ((try clear hfp); (try clear ek); (try clear hμp); (try clear x); (try clear eμp); (try clear hz9); (try clear c14_); (try clear c8_); (try clear hm9); (try clear hg); (try clear hc); (try clear hf); (try clear hexit30); (try clear hcn); (try clear hE); (try clear hkc); (try clear hRs); (try clear hRc); (try clear hRl); (try clear hRf); omega) | omega), ?_, ?_⟩
                          · rw [c2 h9, uz_n (by (first | ((try clear h9); (try clear hfp); (try clear e5); (try clear ek); (try clear c2); (try clear c1); (try clear hμp); (try clear x); (try clear eμp); (try clear μp); (try clear hz9); (try clear c14_); (try clear c8_); (try clear hqb); (try clear hm9); (try clear hg); (try clear hc); (try clear hs); (try clear hf); (try clear hi); (try clear hexit30); (try clear hcn); (try clear hE); (try clear hkc); (try clear hRs); (try clear hRc); (try clear hRl); (try clear hRf); omega) | omega))]; (first | ((try clear hfp); (try clear ek); (try clear hμp); (try clear x); (try clear eμp); (try clear hz9); (try clear c8_); (try clear hm9); (try clear hg); (try clear hc); (try clear hf); (try clear hexit30); (try clear hcn); (try clear hE); (try clear hRs); (try clear hRc); (try clear hRl); (try clear hRf); omega) | omega)
                          · rw [c2 h9, uz_s]) (by
                        intro j hj hj2
                        by_cases h9 : μ q 5 < rm
                        · have e9 := (e5 h9).1
                          rw [c1 h9, uz_n (by (first | ((try clear h9); (try clear hj2); (try clear hj); (try clear hfp); (try clear e5); (try clear ek); (try clear c2); (try clear c1); (try clear hμp); (try clear x); (try clear eμp); (try clear μp); (try clear hz9); (try clear c14_); (try clear c8_); (try clear hqb); (try clear hm9); (try clear hg); (try clear hc); (try clear hs); (try clear hf); (try clear hi); (try clear hexit30); (try clear hcn); (try clear hE); (try clear hkc); (try clear hRs); (try clear hRc); (try clear hRl); (try clear hRf); omega) | omega)), e9]
                          by_cases h8 : j = i.toNat
                          · rw [h8, uz_s]; exact ek
                          · rw [uz_n (by (first | ((try clear h9); (try clear hj2); (try clear hj); (try clear hfp); (try clear e5); (try clear ek); (try clear c2); (try clear c1); (try clear hμp); (try clear x); (try clear eμp); (try clear μp); (try clear hz9); (try clear c14_); (try clear c8_); (try clear hqb); (try clear hm9); (try clear hg); (try clear hc); (try clear hs); (try clear hf); (try clear hi); (try clear hexit30); (try clear hcn); (try clear hE); (try clear hkc); (try clear hRs); (try clear hRc); (try clear hRl); (try clear hRf); omega) | omega))]; exact hc j (by (first | ((try clear h9); (try clear hj2); (try clear hfp); (try clear e5); (try clear ek); (try clear c2); (try clear c1); (try clear hμp); (try clear x); (try clear eμp); (try clear μp); (try clear hz9); (try clear c14_); (try clear c8_); (try clear hqb); (try clear hm9); (try clear hg); (try clear hc); (try clear hs); (try clear hf); (try clear hexit30); (try clear hcn); (try clear hE); (try clear hkc); (try clear hRs); (try clear hRc); (try clear hRl); (try clear hRf); omega) | omega)) hj2
                        · rw [c2 h9, uz_n (by (first | ((try clear h9); (try clear hj2); (try clear hj); (try clear hfp); (try clear e5); (try clear ek); (try clear c2); (try clear c1); (try clear hμp); (try clear x); (try clear eμp); (try clear μp); (try clear hz9); (try clear c14_); (try clear c8_); (try clear hqb); (try clear hm9); (try clear hg); (try clear hc); (try clear hs); (try clear hf); (try clear hi); (try clear hexit30); (try clear hcn); (try clear hE); (try clear hkc); (try clear hRs); (try clear hRc); (try clear hRl); (try clear hRf); omega) | omega))]; exact hc j (by (first | ((try clear hfp); (try clear ek); (try clear hμp); (try clear x); (try clear eμp); (try clear hz9); (try clear c14_); (try clear c8_); (try clear hm9); (try clear hg); (try clear hc); (try clear hf); (try clear hexit30); (try clear hcn); (try clear hE); (try clear hkc); (try clear hRs); (try clear hRc); (try clear hRl); (try clear hRf); omega) | omega)) hj2) (by
                        intro j
                        by_cases h9 : μ q 5 < rm
                        · rw [c1 h9, uz_n (by (first | ((try clear h9); (try clear hj2); (try clear hj); (try clear hfp); (try clear e5); (try clear ek); (try clear c2); (try clear c1); (try clear hμp); (try clear x); (try clear eμp); (try clear μp); (try clear hz9); (try clear c14_); (try clear c8_); (try clear hqb); (try clear hm9); (try clear hg); (try clear hc); (try clear hs); (try clear hf); (try clear hi); (try clear hexit30); (try clear hcn); (try clear hE); (try clear hkc); (try clear hRs); (try clear hRc); (try clear hRl); (try clear hRf); omega) | omega))]
                          by_cases h8 : j = (μ q 5).toNat
                          · rw [h8, uz_s, (e5 h9).1]; exact Or.inr ek
                          · rw [uz_n (by (first | ((try clear h9); (try clear hj2); (try clear hj); (try clear hfp); (try clear e5); (try clear ek); (try clear c2); (try clear c1); (try clear hμp); (try clear x); (try clear eμp); (try clear μp); (try clear hz9); (try clear c14_); (try clear c8_); (try clear hqb); (try clear hm9); (try clear hg); (try clear hc); (try clear hs); (try clear hf); (try clear hi); (try clear hexit30); (try clear hcn); (try clear hE); (try clear hkc); (try clear hRs); (try clear hRc); (try clear hRl); (try clear hRf); omega) | omega))]; exact hg j
                        · rw [c2 h9, uz_n (by (first | ((try clear h9); (try clear hj2); (try clear hj); (try clear hfp); (try clear e5); (try clear ek); (try clear c2); (try clear c1); (try clear hμp); (try clear x); (try clear eμp); (try clear μp); (try clear hz9); (try clear c14_); (try clear c8_); (try clear hqb); (try clear hm9); (try clear hg); (try clear hc); (try clear hs); (try clear hf); (try clear hi); (try clear hexit30); (try clear hcn); (try clear hE); (try clear hkc); (try clear hRs); (try clear hRc); (try clear hRl); (try clear hRf); omega) | omega))]; exact hg j) (by (first | ((try clear h9); (try clear hj2); (try clear hj); (try clear hfp); (try clear ek); (try clear hμp); (try clear x); (try clear eμp); (try clear hz9); (try clear c8_); (try clear hg); (try clear hc); (try clear hs); (try clear hf); (try clear hexit30); (try clear hcn); (try clear hE); (try clear hRs); (try clear hRc); (try clear hRl); (try clear hRf); omega) | omega)) hP hS (lv_sub hl [0, 1, 2, 3] rfl)
set_option maxHeartbeats 4000000 in
set_option maxRecDepth 100000 in
theorem s_Rload2 (l : Launch) (dC : Nat → ClassId) (dI : Nat → Nat → Nat) (cI cZ cII cIII : ClassId) (h0 sz : Nat) (μ : va_M) (q : Nat) (rm : Nat) (kc : Nat) (nc : Nat) (cnt : Int) (w : Rw) (hq : rowB q rm) (hkc : kc < 233 ∧ (kc < q ∨ q + 6 ≤ kc) ∧ nc ≤ 1101) (hE : ∀ f, sE cI cZ cII cIII h0 kc f = .inl (cI, nc, .inl f)) (hcn : cnt = sL w ∧ cnt ≤ nc) (hwf : rW0 w) (hA : SA μ kc w 0) : Met l yX4_load (Cond.code yX4_load cX4_load 4 none :: wsG) ({ frames := 3, cells := 0, slots := 0, locals := 58 } : Room) (va_Pc [.ref (h0 + q), .ref (h0 + kc), .int (iZ (cnt))] (fun U => U.heap.size = sz ∧ va_P (dC, dI) vwCl (fw (sE cI cZ cII cIII h0) h0 233 μ) U.heap ∧ va_K (dC, dI) vwCl (sT cI cZ cII cIII) U ∧ xM U)) (va_Qv (fun (u : va_M) => (rowS u q (rcut rm w) ∧ fr (LEw q (sL (rcut rm w))) μ u ∧ ∀ j : Nat, u (q + 1) j = μ (q + 1) j ∨ u (q + 1) j = μ kc j) ∧ (u q 7 = 0 ∨ (u q 7 = 1 ∧ u q 5 = 0))) (fun u t => va_P (dC, dI) vwCl (fw (sE cI cZ cII cIII h0) h0 233 u) t.heap ∧ va_K (dC, dI) vwCl (sT cI cZ cII cIII) t) (fA h0 233 sz)) 0 0 (fA h0 233 sz) := by
  refine Met.ofW (cc := cX4_load) (maxL := 4) (ret := none) (by decide) rfl ?_
  intro p e s m args below meth c s₁ B hml hv
  obtain ⟨rfl, hsz, hP, hK, hM⟩ := hv
  have hx := B.exec
  have hb := B.bytes
  have hr := B.returns
  have hts : ∀ w ∈ wsG, w.before _ s = true := hG_of (atoms_spec (ws := (Cond.code yX4_load cX4_load 4 none :: wsG)) B.pre)
  have hown : s.vm.findClass RX4 = some m.cls := findClass_of_methodNamed B.named
  have hlocks := B.notSynchronized
  subst hsz
  have hS : va_S (fA h0 233 s.heap.size) s.heap s.heap [] := va_S.rf
  have hl := lv_entry ([.ref (h0 + q), .ref (h0 + kc), .int (iZ (cnt))]) (n := 4) (Nat.le_of_ble_eq_true rfl)
  rw [lg_entry_eq]
  generalize (lg_sl ([.ref (h0 + q), .ref (h0 + kc), .int (iZ (cnt))]) ++ List.replicate (4 - (lg_sl ([.ref (h0 + q), .ref (h0 + kc), .int (iZ (cnt))])).length) Slot.unset).toArray = ls at hl ⊢
  have hl : lv_has ls 4 [(0, .ref (h0 + q)), (1, .ref (h0 + kc)), (2, .int (iZ (cnt)))] := hl
  have hqb := rowB_b hq
  refine lv_aload_n hx hb dX4_load_0 rfl (lv_at hl 0 rfl) ?_
  refine va_callv (va_runV (As := []) (rest := []) ⟨hx, hb, hml, hown, hts⟩ (s_Rempty l dC dI cI cZ cII cIII h0 s.heap.size μ (q) (rm) (hq)) (cwV 0 hts (gV_G k406 k407 k408 k3 k409) rfl rfl rfl (by decide +kernel) ⟨Nat.le_of_ble_eq_true rfl, Nat.le_of_ble_eq_true rfl⟩) ⟨fun a U g mk q => by obtain ⟨q0, q1, qP, qK, qM⟩ := q; exact ⟨q0, q1, qP, va_K.moved (u := U) (U := U.calling g mk a) (Vm.Alike.refl U.vm) qK, qM⟩, va_recv hK hP (ci := 4) (q0 := q) rfl ((fw_get (by (first | ((try clear mk); (try clear g); (try clear U); (try clear hsz); (try clear s₁); (try clear hcn); (try clear hE); (try clear hkc); omega) | omega))).trans (by rw [(sE_rowO hq)])), fun U hU hW => ⟨rfl, by rw [hU], by rw [hU]; exact hP, va_K.moved hW.alike hK, xM_warm hW hM⟩⟩ rfl rfl hl.1 rfl (lv_room (Nat.le_of_ble_eq_true rfl)) dX4_load_1 ⟨Nat.le_of_ble_eq_true rfl, Nat.le_of_ble_eq_true rfl⟩) hS (fun q _ h => fA_le hS.1 q h) (fA_le hS.1) (fun u9 t9 H1 locs ht9 hvm9 hw9 hB9 hz9 hk9 hS => ?_)
  obtain ⟨hP, -⟩ := hB9
  rw [ht9] at hP
  generalize H1 = H at hP hS ⊢
  obtain ⟨μe, eμe⟩ : ∃ x : va_M, x = u9 := ⟨_, rfl⟩
  rw [← eμe] at hP hw9
  have hμe := hw9; clear hw9
  have he := hμe
  have hfe : fr (fun x _ => x = q ∨ x = q + 1) μ μe := by rw [he]; exact fr_uz (fr_uz fr_rfl (Or.inl rfl)) (Or.inl rfl)
  refine lv_iconst (v := iZ 0) hx hb dX4_load_4 rfl ?_
  refine lv_istore_n (lv' := [(3, .int (iZ (0))), (0, .ref (h0 + q)), (1, .ref (h0 + kc)), (2, .int (iZ (cnt)))]) hx hb dX4_load_5 rfl hl (by decide) rfl (fun ls hl => ?_)
  refine LX4_load_6b hx hb hml hown hts hK hM (Nat.le_of_ble_eq_true rfl) (Nat.le_of_ble_eq_true rfl) (Nat.le_of_ble_eq_true rfl) (Nat.le_of_ble_eq_true rfl) (μe) (q) (rm) (kc) (nc) (cnt) (by assumption) (by exact hkc) (by exact hE) (by (first | ((try clear hfe); (try clear he); (try clear hμe); (try clear x); (try clear eμe); (try clear μe); (try clear hz9); (try clear hqb); (try clear hsz); (try clear s₁); (try clear hE); (try clear hkc); omega) | omega)) ?_ _ (0) μe H locs ls (by (first | ((try clear hfe); (try clear he); (try clear hμe); (try clear x); (try clear eμe); (try clear μe); (try clear hz9); (try clear hqb); (try clear hsz); (try clear s₁); (try clear hE); (try clear hkc); omega) | omega)) (by exact fr_rfl) (by
            refine Or.inl ⟨by (first | ((try clear hfe); (try clear he); (try clear hμe); (try clear x); (try clear eμe); (try clear μe); (try clear hz9); (try clear hqb); (try clear hsz); (try clear s₁); (try clear hcn); (try clear hE); (try clear hkc); omega) | omega), ?_, ?_⟩
            · rw [he, uz_n (by (first | ((try clear hfe); (try clear he); (try clear hμe); (try clear x); (try clear eμe); (try clear μe); (try clear hz9); (try clear hqb); (try clear hsz); (try clear s₁); (try clear hcn); (try clear hE); (try clear hkc); omega) | omega)), uz_s]
            · rw [he, uz_s]) (by intro j hj; (first | ((try clear hfe); (try clear he); (try clear hμe); (try clear x); (try clear eμe); (try clear μe); (try clear hz9); (try clear hqb); (try clear hsz); (try clear s₁); (try clear hcn); (try clear hE); (try clear hkc); omega) | omega)) (by intro j; exact Or.inl rfl) (Nat.lt_succ_self _) hP hS (lv_sub hl [0, 3, 2, 1] rfl)
  · intro i_1 μ1_ H locs ls q1_1 q2_1 q3_1 q4_1 hP hS hl
    have hl : lv_has ls 4 [(0, .ref (h0 + q))] := hl
    have G1_ := q1_1
    have G2_ := q2_1
    have G3_ := q3_1
    have G4_ := q4_1
    refine lv_aload_n hx hb dX4_load_30 rfl (lv_at hl 0 rfl) ?_
    refine va_callv (va_runV (As := []) (rest := []) ⟨hx, hb, hml, hown, hts⟩ (s_Rseal l dC dI cI cZ cII cIII h0 H.size μ1_ (q) (rm) (rcut rm w) (hq) (by (first | ((try clear G4_); (try clear G3_); (try clear G1_); (try clear q4_1); (try clear q3_1); (try clear q2_1); (try clear q1_1); (try clear i_1); (try clear hfe); (try clear he); (try clear hμe); (try clear x); (try clear eμe); (try clear μe); (try clear hz9); (try clear hqb); (try clear hsz); (try clear s₁); (try clear hE); (try clear hkc); omega) | omega)) (by
                unfold rcut
                by_cases h9 : sL w ≤ rm
                · rw [if_pos h9]
                  refine ⟨hwf, Or.inl ⟨by (first | ((try clear G4_); (try clear G3_); (try clear G1_); (try clear q4_1); (try clear q3_1); (try clear q2_1); (try clear q1_1); (try clear i_1); (try clear hfe); (try clear he); (try clear hμe); (try clear x); (try clear eμe); (try clear μe); (try clear hz9); (try clear hqb); (try clear hsz); (try clear s₁); (try clear hE); (try clear hkc); omega) | omega), SA_to w 0 0 hA (fun y hy => ?_), by (first | ((try clear hy); (try clear y); (try clear G4_); (try clear G3_); (try clear G1_); (try clear q4_1); (try clear q3_1); (try clear q2_1); (try clear q1_1); (try clear i_1); (try clear hfe); (try clear he); (try clear hμe); (try clear x); (try clear eμe); (try clear μe); (try clear hz9); (try clear hqb); (try clear hsz); (try clear s₁); (try clear hE); (try clear hkc); omega) | omega)⟩⟩
                  rw [Nat.zero_add, G3_ y (by (first | ((try clear h9); (try clear G4_); (try clear G3_); (try clear G2_); (try clear G1_); (try clear q4_1); (try clear q3_1); (try clear q2_1); (try clear q1_1); (try clear μ1_); (try clear i_1); (try clear hfe); (try clear he); (try clear hμe); (try clear x); (try clear eμe); (try clear μe); (try clear hz9); (try clear hqb); (try clear hsz); (try clear s₁); (try clear hE); (try clear hkc); omega) | omega)) (by (first | ((try clear G4_); (try clear G3_); (try clear G2_); (try clear G1_); (try clear q4_1); (try clear q3_1); (try clear q2_1); (try clear q1_1); (try clear μ1_); (try clear i_1); (try clear hfe); (try clear he); (try clear hμe); (try clear x); (try clear eμe); (try clear μe); (try clear hz9); (try clear hqb); (try clear hsz); (try clear s₁); (try clear hcn); (try clear hE); (try clear hkc); omega) | omega))]
                  exact hfe _ _ (by (first | ((try clear hy); (try clear G4_); (try clear G3_); (try clear G1_); (try clear q4_1); (try clear q3_1); (try clear q1_1); (try clear i_1); (try clear hfe); (try clear he); (try clear hμe); (try clear x); (try clear eμe); (try clear μe); (try clear hz9); (try clear hsz); (try clear s₁); (try clear hE); omega) | omega))
                · rw [if_neg h9]
                  exact ⟨trivial, Or.inr ⟨by (first | ((try clear G4_); (try clear G3_); (try clear G1_); (try clear q4_1); (try clear q3_1); (try clear q2_1); (try clear q1_1); (try clear i_1); (try clear hfe); (try clear he); (try clear hμe); (try clear x); (try clear eμe); (try clear μe); (try clear hz9); (try clear hqb); (try clear hsz); (try clear s₁); (try clear hE); (try clear hkc); omega) | omega), rfl⟩⟩)) (cwV 0 hts (gV_G k414 k415 k416 k3 k417) rfl rfl rfl (by decide +kernel) ⟨Nat.le_of_ble_eq_true rfl, Nat.le_of_ble_eq_true rfl⟩) ⟨fun a U g mk q => by obtain ⟨q0, q1, qP, qK, qM⟩ := q; exact ⟨q0, q1, qP, va_K.moved (u := U) (U := U.calling g mk a) (Vm.Alike.refl U.vm) qK, qM⟩, va_recv hK hP (ci := 4) (q0 := q) rfl ((fw_get (by (first | ((try clear mk); (try clear g); (try clear U); (try clear h9); (try clear G4_); (try clear G3_); (try clear G2_); (try clear G1_); (try clear q4_1); (try clear q3_1); (try clear q2_1); (try clear q1_1); (try clear μ1_); (try clear i_1); (try clear hfe); (try clear he); (try clear hμe); (try clear x); (try clear eμe); (try clear μe); (try clear hz9); (try clear hsz); (try clear s₁); (try clear hcn); (try clear hE); (try clear hkc); omega) | omega))).trans (by rw [(sE_rowO hq)])), fun U hU hW => ⟨rfl, by rw [hU], by rw [hU]; exact hP, va_K.moved hW.alike hK, xM_warm hW hM⟩⟩ rfl rfl hl.1 rfl (lv_room (Nat.le_of_ble_eq_true rfl)) dX4_load_31 ⟨Nat.le_of_ble_eq_true rfl, Nat.le_of_ble_eq_true rfl⟩) hS (fun q _ h => fA_le hS.1 q h) (fA_le hS.1) (fun u9 t9 H1 locs ht9 hvm9 hw9 hB9 hz9 hk9 hS => ?_)
    obtain ⟨hP, -⟩ := hB9
    rw [ht9] at hP
    generalize H1 = H at hP hS ⊢
    obtain ⟨μs, eμs⟩ : ∃ x : va_M, x = u9 := ⟨_, rfl⟩
    rw [← eμs] at hP hw9
    have hμs := hw9; clear hw9
    exact W.vret hx hb hr (fun t9 ht9 hW9 => ⟨⟨μs, rfl, (by
                try dsimp only
                obtain ⟨d1_, d2_⟩ := hμs
                refine ⟨⟨d1_, ?_, fun j => ?_⟩, ?_⟩
                · exact fr_trans (fr_mono (fr_trans hfe G1_) (fun x y h => by unfold LEw LEq; (first | ((try clear j); (try clear d2_); (try clear d1_); (try clear hμs); (try clear eμs); (try clear μs); (try clear G4_); (try clear G3_); (try clear G2_); (try clear G1_); (try clear q4_1); (try clear q3_1); (try clear q2_1); (try clear q1_1); (try clear μ1_); (try clear i_1); (try clear hfe); (try clear he); (try clear hμe); (try clear eμe); (try clear μe); (try clear hz9); (try clear hqb); (try clear hsz); (try clear s₁); (try clear hcn); (try clear hE); (try clear hkc); omega) | omega))) (fr_mono d2_ (fun x y h => by unfold SEw SEq at h; unfold LEw LEq; (first | ((try clear j); (try clear d2_); (try clear d1_); (try clear hμs); (try clear eμs); (try clear μs); (try clear G4_); (try clear G3_); (try clear G2_); (try clear G1_); (try clear q4_1); (try clear q3_1); (try clear q2_1); (try clear q1_1); (try clear μ1_); (try clear i_1); (try clear hfe); (try clear he); (try clear hμe); (try clear eμe); (try clear μe); (try clear hz9); (try clear hqb); (try clear hsz); (try clear s₁); (try clear hcn); (try clear hE); (try clear hkc); omega) | omega)))
                · have k1 := d2_ (q + 1) j (by unfold SEw SEq; (first | ((try clear k1); (try clear d2_); (try clear d1_); (try clear hμs); (try clear x); (try clear eμs); (try clear μs); (try clear G4_); (try clear G3_); (try clear G2_); (try clear G1_); (try clear q4_1); (try clear q3_1); (try clear q2_1); (try clear q1_1); (try clear μ1_); (try clear i_1); (try clear hfe); (try clear he); (try clear hμe); (try clear eμe); (try clear μe); (try clear hz9); (try clear hqb); (try clear hsz); (try clear s₁); (try clear hcn); (try clear hE); (try clear hkc); omega) | omega))
                  have k2 := hfe kc j (by (first | ((try clear k2); (try clear k1); (try clear d2_); (try clear d1_); (try clear hμs); (try clear x); (try clear eμs); (try clear G4_); (try clear G3_); (try clear G1_); (try clear q4_1); (try clear q3_1); (try clear q1_1); (try clear i_1); (try clear hfe); (try clear he); (try clear hμe); (try clear eμe); (try clear μe); (try clear hz9); (try clear hsz); (try clear s₁); (try clear hE); omega) | omega))
                  have k3 : μe (q + 1) j = μ (q + 1) j := by rw [he, uz_n (by (first | ((try clear k3); (try clear k2); (try clear k1); (try clear d2_); (try clear d1_); (try clear hμs); (try clear x); (try clear eμs); (try clear G4_); (try clear G3_); (try clear G2_); (try clear G1_); (try clear q4_1); (try clear q3_1); (try clear q2_1); (try clear q1_1); (try clear i_1); (try clear hfe); (try clear he); (try clear hμe); (try clear eμe); (try clear hz9); (try clear hqb); (try clear hsz); (try clear s₁); (try clear hcn); (try clear hE); (try clear hkc); omega) | omega)), uz_n (by (first | ((try clear k3); (try clear k2); (try clear k1); (try clear d2_); (try clear d1_); (try clear hμs); (try clear x); (try clear eμs); (try clear G4_); (try clear G3_); (try clear G2_); (try clear G1_); (try clear q4_1); (try clear q3_1); (try clear q2_1); (try clear q1_1); (try clear i_1); (try clear hfe); (try clear he); (try clear hμe); (try clear eμe); (try clear hz9); (try clear hqb); (try clear hsz); (try clear s₁); (try clear hcn); (try clear hE); (try clear hkc); omega) | omega))]
                  rw [k1, ← k2, ← k3]
                  exact G4_ j
                · have k9 : μs q 7 = μ1_ q 7 := d2_ _ _ (by unfold SEw SEq; (first | ((try clear k9); (try clear j); (try clear d2_); (try clear d1_); (try clear hμs); (try clear x); (try clear eμs); (try clear μs); (try clear G4_); (try clear G3_); (try clear G2_); (try clear G1_); (try clear q4_1); (try clear q3_1); (try clear q2_1); (try clear q1_1); (try clear μ1_); (try clear i_1); (try clear hfe); (try clear he); (try clear hμe); (try clear eμe); (try clear μe); (try clear hz9); (try clear hqb); (try clear hsz); (try clear s₁); (try clear hcn); (try clear hE); (try clear hkc); omega) | omega))
                  have k8 := d1_.1.1
                  unfold rcut at k8
                  by_cases h9 : sL w ≤ rm
                  · exact Or.inl (by (first | ((try clear k8); (try clear j); (try clear d2_); (try clear d1_); (try clear hμs); (try clear x); (try clear eμs); (try clear G4_); (try clear G3_); (try clear G1_); (try clear q4_1); (try clear q3_1); (try clear q2_1); (try clear q1_1); (try clear i_1); (try clear hfe); (try clear he); (try clear hμe); (try clear eμe); (try clear μe); (try clear hz9); (try clear hqb); (try clear hsz); (try clear s₁); (try clear hE); (try clear hkc); omega) | omega))
                  · rw [if_neg h9] at k8
                    exact Or.inr ⟨by (first | ((try clear k8); (try clear j); (try clear d2_); (try clear d1_); (try clear hμs); (try clear x); (try clear eμs); (try clear G4_); (try clear G3_); (try clear G1_); (try clear q4_1); (try clear q3_1); (try clear q2_1); (try clear q1_1); (try clear i_1); (try clear hfe); (try clear he); (try clear hμe); (try clear eμe); (try clear μe); (try clear hz9); (try clear hqb); (try clear hsz); (try clear s₁); (try clear hE); (try clear hkc); omega) | omega), k8⟩), by rw [ht9]; exact hP, va_K.moved hW9.alike hK⟩, hS.F ht9⟩) hS.2.2 dX4_load_34
set_option maxHeartbeats 4000000 in
set_option maxRecDepth 100000 in
theorem s_Rtake2 (l : Launch) (dC : Nat → ClassId) (dI : Nat → Nat → Nat) (cI cZ cII cIII : ClassId) (h0 sz : Nat) (μ : va_M) (q : Nat) (rm : Nat) (q2 : Nat) (rm2 : Nat) (w : Rw) (hq : rowB q rm) (hq2 : rowB q2 rm2) (hap : q + 6 ≤ q2 ∨ q2 + 6 ≤ q) (hwf : rW0 w) (hS2 : rowS μ q2 w) (hlen2 : μ q2 5 ≤ rm2) : Met l yX4_take (Cond.code yX4_take cX4_take 2 none :: wsG) ({ frames := 4, cells := 0, slots := 0, locals := 81 } : Room) (va_Pc [.ref (h0 + q), .ref (h0 + q2)] (fun U => U.heap.size = sz ∧ va_P (dC, dI) vwCl (fw (sE cI cZ cII cIII h0) h0 233 μ) U.heap ∧ va_K (dC, dI) vwCl (sT cI cZ cII cIII) U ∧ xM U)) (va_Qv (fun (u : va_M) => (rowS u q (rcut rm w) ∧ fr (LEw q (sL (rcut rm w))) μ u ∧ ∀ j : Nat, u (q + 1) j = μ (q + 1) j ∨ u (q + 1) j = μ (q2 + 1) j) ∧ (u q 7 = 0 ∨ (u q 7 = 1 ∧ u q 5 = 0))) (fun u t => va_P (dC, dI) vwCl (fw (sE cI cZ cII cIII h0) h0 233 u) t.heap ∧ va_K (dC, dI) vwCl (sT cI cZ cII cIII) t) (fA h0 233 sz)) 0 0 (fA h0 233 sz) := by
  refine Met.ofW (cc := cX4_take) (maxL := 2) (ret := none) (by decide) rfl ?_
  intro p e s m args below meth c s₁ B hml hv
  obtain ⟨rfl, hsz, hP, hK, hM⟩ := hv
  have hx := B.exec
  have hb := B.bytes
  have hr := B.returns
  have hts : ∀ w ∈ wsG, w.before _ s = true := hG_of (atoms_spec (ws := (Cond.code yX4_take cX4_take 2 none :: wsG)) B.pre)
  have hown : s.vm.findClass RX4 = some m.cls := findClass_of_methodNamed B.named
  have hlocks := B.notSynchronized
  subst hsz
  have hS : va_S (fA h0 233 s.heap.size) s.heap s.heap [] := va_S.rf
  have hl := lv_entry ([.ref (h0 + q), .ref (h0 + q2)]) (n := 2) (Nat.le_of_ble_eq_true rfl)
  rw [lg_entry_eq]
  generalize (lg_sl ([.ref (h0 + q), .ref (h0 + q2)]) ++ List.replicate (2 - (lg_sl ([.ref (h0 + q), .ref (h0 + q2)])).length) Slot.unset).toArray = ls at hl ⊢
  have hl : lv_has ls 2 [(0, .ref (h0 + q)), (1, .ref (h0 + q2))] := hl
  have hqb := rowB_b hq
  have hqb2 := rowB_b hq2
  refine lv_aload_n hx hb dX4_take_0 rfl (lv_at hl 0 rfl) ?_
  refine lv_aload_n hx hb dX4_take_1 rfl (lv_at hl 1 rfl) ?_
  refine fz_get (D := (dC, dI)) (ci := 4) (v := .ref (h0 + (q2 + 1))) (C := RX4) (T := TX4) (N := 8) hx hb hts inG4 hown hK hP (k := q2) (by (first | ((try clear hqb); (try clear hsz); (try clear s₁); (try clear hlen2); (try clear hap); omega) | omega)) (F := (sRF h0 q2)) (sE_rowO hq2) rfl 0 (by decide) (hts _ k77) (fun _ h9 => h9) rfl dX4_take_2 ?_
  refine lv_aload_n hx hb dX4_take_5 rfl (lv_at hl 1 rfl) ?_
  refine fz_get (D := (dC, dI)) (ci := 4) (v := .int (iZ (μ q2 5))) (C := RX4) (T := TX4) (N := 8) hx hb hts inG4 hown hK hP (k := q2) (by (first | ((try clear hqb); (try clear hsz); (try clear s₁); (try clear hlen2); (try clear hap); omega) | omega)) (F := (sRF h0 q2)) (sE_rowO hq2) rfl 5 (by decide) (hts _ k92) (fun _ h9 => h9) rfl dX4_take_6 ?_
  refine va_callv (va_runV (As := [.ref (h0 + (q2 + 1)), .int (iZ (μ q2 5))]) (rest := []) ⟨hx, hb, hml, hown, hts⟩ (s_Rload2 l dC dI cI cZ cII cIII h0 s.heap.size μ (q) (rm) ((q2 + 1)) (rm2) (μ q2 5) (w) (hq) (by (first | ((try clear hsz); (try clear s₁); (try clear hlen2); omega) | omega)) ((sE_rowA (r := 1) hq2 (by decide))) (by have := hS2.1.1; (first | ((try clear hqb2); (try clear hqb); (try clear hsz); (try clear s₁); (try clear hap); omega) | omega)) (by exact hwf) (by exact hS2.2.1)) (cwV 2 hts (gV_G k402 k403 k404 k3 k405) rfl rfl rfl (by decide +kernel) ⟨Nat.le_of_ble_eq_true rfl, Nat.le_of_ble_eq_true rfl⟩) ⟨fun a U g mk q => by obtain ⟨q0, q1, qP, qK, qM⟩ := q; exact ⟨q0, q1, qP, va_K.moved (u := U) (U := U.calling g mk a) (Vm.Alike.refl U.vm) qK, qM⟩, va_recv hK hP (ci := 4) (q0 := q) rfl ((fw_get (by (first | ((try clear mk); (try clear g); (try clear U); (try clear hqb2); (try clear hsz); (try clear s₁); (try clear hlen2); (try clear hap); omega) | omega))).trans (by rw [(sE_rowO hq)])), fun U hU hW => ⟨rfl, by rw [hU], by rw [hU]; exact hP, va_K.moved hW.alike hK, xM_warm hW hM⟩⟩ rfl rfl hl.1 rfl (lv_room (Nat.le_of_ble_eq_true rfl)) dX4_take_9 ⟨Nat.le_of_ble_eq_true rfl, Nat.le_of_ble_eq_true rfl⟩) hS (fun q _ h => fA_le hS.1 q h) (fA_le hS.1) (fun u9 t9 H1 locs ht9 hvm9 hw9 hB9 hz9 hk9 hS => ?_)
  obtain ⟨hP, -⟩ := hB9
  rw [ht9] at hP
  generalize H1 = H at hP hS ⊢
  obtain ⟨μ1, eμ1⟩ : ∃ x : va_M, x = u9 := ⟨_, rfl⟩
  rw [← eμ1] at hP hw9
  have hμ1 := hw9; clear hw9
  exact W.vret hx hb hr (fun t9 ht9 hW9 => ⟨⟨μ1, rfl, (by
            try dsimp only
            exact hμ1), by rw [ht9]; exact hP, va_K.moved hW9.alike hK⟩, hS.F ht9⟩) hS.2.2 dX4_take_12
set_option maxHeartbeats 4000000 in
set_option maxRecDepth 100000 in
theorem s_XsortOf (l : Launch) (dC : Nat → ClassId) (dI : Nat → Nat → Nat) (cI cZ cII cIII : ClassId) (h0 sz : Nat) (μ : va_M) (tk : Int) (h_t : 0 ≤ tk ∧ tk < 200) (hk9 : 0 ≤ μ 3 tk.toNat ∧ μ 3 tk.toNat ≤ 2000000000) : Met l yX5_sortOf (Cond.code yX5_sortOf cX5_sortOf 2 (some .int) :: wsG) ({ frames := 1, cells := 0, slots := 0, locals := 14 } : Room) (va_Pc [.ref (h0 + 1), .int (iZ (tk))] (fun U => U.heap.size = sz ∧ va_P (dC, dI) vwCl (fw (sE cI cZ cII cIII h0) h0 233 μ) U.heap ∧ va_K (dC, dI) vwCl (sT cI cZ cII cIII) U ∧ xM U)) (va_Qi (fun (r9 : Int32) (u : va_M × Int) => r9 = iZ u.2 ∧ (fun (u : va_M) (r : Int) => u = μ ∧ r = μ 3 tk.toNat % 3) u.1 u.2) (fun u t => va_P (dC, dI) vwCl (fw (sE cI cZ cII cIII h0) h0 233 u.1) t.heap ∧ va_K (dC, dI) vwCl (sT cI cZ cII cIII) t) (fA h0 233 sz)) 0 0 (fA h0 233 sz) := by
  refine Met.ofW (cc := cX5_sortOf) (maxL := 2) (ret := (some .int)) (by decide) rfl ?_
  intro p e s m args below meth c s₁ B hml hv
  obtain ⟨rfl, hsz, hP, hK, hM⟩ := hv
  have hx := B.exec
  have hb := B.bytes
  have hr := B.returns
  have hts : ∀ w ∈ wsG, w.before _ s = true := hG_of (atoms_spec (ws := (Cond.code yX5_sortOf cX5_sortOf 2 (some .int) :: wsG)) B.pre)
  have hown : s.vm.findClass RX5 = some m.cls := findClass_of_methodNamed B.named
  have hlocks := B.notSynchronized
  subst hsz
  have hS : va_S (fA h0 233 s.heap.size) s.heap s.heap [] := va_S.rf
  have hl := lv_entry ([.ref (h0 + 1), .int (iZ (tk))]) (n := 2) (Nat.le_of_ble_eq_true rfl)
  rw [lg_entry_eq]
  generalize (lg_sl ([.ref (h0 + 1), .int (iZ (tk))]) ++ List.replicate (2 - (lg_sl ([.ref (h0 + 1), .int (iZ (tk))])).length) Slot.unset).toArray = ls at hl ⊢
  have hl : lv_has ls 2 [(0, .ref (h0 + 1)), (1, .int (iZ (tk)))] := hl
  refine lv_aload_n hx hb dX5_sortOf_0 rfl (lv_at hl 0 rfl) ?_
  refine fz_get (D := (dC, dI)) (ci := 5) (v := .ref (h0 + 3)) (C := RX5) (T := TX5) (N := 8) hx hb hts inG5 hown hK hP (k := 1) (by decide) (F := (sF1 h0)) sE_1 rfl 2 (by decide) (hts _ k38) (fun _ h9 => h9) rfl dX5_sortOf_1 ?_
  refine lv_iload_n hx hb dX5_sortOf_4 rfl (lv_at hl 1 rfl) ?_
  refine fz_ld (k := 3) (n := 200) hx hb hK hP 0 (by decide) sE_3 rfl ⟨by (first | ((try clear hsz); (try clear s₁); omega) | omega), by (first | ((try clear hsz); (try clear s₁); omega) | omega)⟩ (by decide) dX5_sortOf_5 ?_
  refine lv_iconst (v := iZ 3) hx hb dX5_sortOf_6 rfl ?_
  refine lv_irem hx hb dX5_sortOf_7 (by decide +kernel) ?_
  refine lv_topi (fun x9 ex9 => ?_)
  obtain rfl : x9 = iZ ((μ 3 (tk).toNat) % 3) := ex9.trans (iZ_remP (by constructor <;> (first | ((try clear ex9); (try clear hsz); (try clear s₁); (try clear h_t); omega) | omega)) (by decide) (by (first | ((try clear ex9); (try clear hsz); (try clear s₁); (try clear h_t); omega) | omega)) (by (first | ((try clear ex9); (try clear hsz); (try clear s₁); (try clear h_t); omega) | omega)))
  exact W.iret (v := iZ ((μ 3 (tk).toNat) % 3)) hx hb hr (fun t9 ht9 hW9 => ⟨⟨iZ ((μ 3 (tk).toNat) % 3), (μ, (μ 3 (tk).toNat) % 3), rfl, ⟨rfl, (by
            dsimp only
            exact ⟨rfl, rfl⟩)⟩, by rw [ht9]; exact hP, va_K.moved hW9.alike hK⟩, hS.F ht9⟩) hS.2.2 dX5_sortOf_8
set_option maxHeartbeats 4000000 in
set_option maxRecDepth 100000 in
theorem s_KisThrough (l : Launch) (dC : Nat → ClassId) (dI : Nat → Nat → Nat) (cI cZ cII cIII : ClassId) (h0 sz : Nat) (μ : va_M) (b : Nat) (ii : Nat) (hb9 : b = 113 + ii * 15) (hi9 : ii < 8) (hwc : inR (μ (b + 10) 1)) : Met l yX7_isThrough (Cond.code yX7_isThrough cX7_isThrough 1 (some .boolean) :: wsG) ({ frames := 1, cells := 0, slots := 0, locals := 14 } : Room) (va_Pc [.ref (h0 + (b + 10))] (fun U => U.heap.size = sz ∧ va_P (dC, dI) vwCl (fw (sE cI cZ cII cIII h0) h0 233 μ) U.heap ∧ va_K (dC, dI) vwCl (sT cI cZ cII cIII) U ∧ xM U)) (va_Qi (fun (r9 : Int32) (u : va_M × Int) => r9 = iZ u.2 ∧ (fun (u : va_M) (r : Int) => u = μ ∧ (r = 0 ∨ r = 1)) u.1 u.2) (fun u t => va_P (dC, dI) vwCl (fw (sE cI cZ cII cIII h0) h0 233 u.1) t.heap ∧ va_K (dC, dI) vwCl (sT cI cZ cII cIII) t) (fA h0 233 sz)) 0 0 (fA h0 233 sz) := by
  refine Met.ofW (cc := cX7_isThrough) (maxL := 1) (ret := (some .boolean)) (by decide) rfl ?_
  intro p e s m args below meth c s₁ B hml hv
  obtain ⟨rfl, hsz, hP, hK, hM⟩ := hv
  have hx := B.exec
  have hb := B.bytes
  have hr := B.returns
  have hts : ∀ w ∈ wsG, w.before _ s = true := hG_of (atoms_spec (ws := (Cond.code yX7_isThrough cX7_isThrough 1 (some .boolean) :: wsG)) B.pre)
  have hown : s.vm.findClass RX7 = some m.cls := findClass_of_methodNamed B.named
  have hlocks := B.notSynchronized
  subst hsz
  have hS : va_S (fA h0 233 s.heap.size) s.heap s.heap [] := va_S.rf
  have hl := lv_entry ([.ref (h0 + (b + 10))]) (n := 1) (Nat.le_of_ble_eq_true rfl)
  rw [lg_entry_eq]
  generalize (lg_sl ([.ref (h0 + (b + 10))]) ++ List.replicate (1 - (lg_sl ([.ref (h0 + (b + 10))])).length) Slot.unset).toArray = ls at hl ⊢
  have hl : lv_has ls 1 [(0, .ref (h0 + (b + 10)))] := hl
  have hlb := lf_b hb9 hi9
  refine lv_aload_n hx hb dX7_isThrough_0 rfl (lv_at hl 0 rfl) ?_
  refine fz_get (D := (dC, dI)) (ci := 7) (v := .int (iZ (μ (b + 10) 1))) (C := RX7) (T := TX7) (N := 5) hx hb hts inG7 hown hK hP (k := (b + 10)) (by (first | ((try clear hlb); (try clear hsz); (try clear s₁); (try clear hwc); omega) | omega)) (F := (sWF h0 b)) (sE_walk hi9 hb9) rfl 1 (by decide) (hts _ k273) (fun _ h9 => h9) rfl dX7_isThrough_1 ?_
  refine fz_if_le (tgt := 11) (by exact hwc) hx hb dX7_isThrough_4 (by decide) (fun c4_ => ?_) (fun c4_ => ?_)
  · refine lv_iconst (v := iZ 0) hx hb dX7_isThrough_11 rfl ?_
    exact W.zret (v := iZ (0)) hx hb hr (by decide +kernel) (fun t9 ht9 hW9 => ⟨⟨iZ (0), (μ, 0), rfl, ⟨rfl, (by
                dsimp only
                exact ⟨rfl, by (first | ((try clear c4_); (try clear hlb); (try clear hsz); (try clear s₁); (try clear hwc); (try clear hi9); (try clear hb9); omega) | omega)⟩)⟩, by rw [ht9]; exact hP, va_K.moved hW9.alike hK⟩, hS.F ht9⟩) hS.2.2 dX7_isThrough_12
  · refine lv_iconst (v := iZ 1) hx hb dX7_isThrough_7 rfl ?_
    refine lv_goto (tgt := 12) hx hb dX7_isThrough_8 (by decide) ?_
    exact W.zret (v := iZ (1)) hx hb hr (by decide +kernel) (fun t9 ht9 hW9 => ⟨⟨iZ (1), (μ, 1), rfl, ⟨rfl, (by
                dsimp only
                exact ⟨rfl, by (first | ((try clear c4_); (try clear hlb); (try clear hsz); (try clear s₁); (try clear hwc); (try clear hi9); (try clear hb9); omega) | omega)⟩)⟩, by rw [ht9]; exact hP, va_K.moved hW9.alike hK⟩, hS.F ht9⟩) hS.2.2 dX7_isThrough_12

theorem k406 : (Cond.methodLink "PageSkeleton$Row" (52 : Nat) ({ cls := "PageSkeleton$Row", name := "empty", desc := "()V" } : MethodName)) ∈ wsG := wsG_at 406 (by decide +kernel) (by decide +kernel)
theorem k407 : (Cond.instanceMethod ({ cls := "PageSkeleton$Row", name := "empty", desc := "()V" } : MethodName)) ∈ wsG := wsG_at 407 (by decide +kernel) (by decide +kernel)
theorem k408 : (Cond.selects "PageSkeleton$Row" ({ cls := "PageSkeleton$Row", name := "empty", desc := "()V" } : MethodName) ({ cls := "PageSkeleton$Row", name := "empty", desc := "()V" } : MethodName)) ∈ wsG := wsG_at 408 (by decide +kernel) (by decide +kernel)
theorem k409 : (Cond.code ({ cls := "PageSkeleton$Row", name := "empty", desc := "()V" } : MethodName) prog_6_method_2_code (1 : Nat) (Option.none : Option Jvm.ClassFile.FieldType)) ∈ wsG := wsG_at 409 (by decide +kernel) (by decide +kernel)
theorem k410 : (Cond.methodLink "PageSkeleton$Row" (44 : Nat) ({ cls := "PageSkeleton$Row", name := "put", desc := "(I)V" } : MethodName)) ∈ wsG := wsG_at 410 (by decide +kernel) (by decide +kernel)
theorem k411 : (Cond.instanceMethod ({ cls := "PageSkeleton$Row", name := "put", desc := "(I)V" } : MethodName)) ∈ wsG := wsG_at 411 (by decide +kernel) (by decide +kernel)
theorem k412 : (Cond.selects "PageSkeleton$Row" ({ cls := "PageSkeleton$Row", name := "put", desc := "(I)V" } : MethodName) ({ cls := "PageSkeleton$Row", name := "put", desc := "(I)V" } : MethodName)) ∈ wsG := wsG_at 412 (by decide +kernel) (by decide +kernel)
theorem k413 : (Cond.code ({ cls := "PageSkeleton$Row", name := "put", desc := "(I)V" } : MethodName) prog_6_method_3_code (2 : Nat) (Option.none : Option Jvm.ClassFile.FieldType)) ∈ wsG := wsG_at 413 (by decide +kernel) (by decide +kernel)
theorem k414 : (Cond.methodLink "PageSkeleton$Row" (55 : Nat) ({ cls := "PageSkeleton$Row", name := "seal", desc := "()V" } : MethodName)) ∈ wsG := wsG_at 414 (by decide +kernel) (by decide +kernel)
theorem k415 : (Cond.instanceMethod ({ cls := "PageSkeleton$Row", name := "seal", desc := "()V" } : MethodName)) ∈ wsG := wsG_at 415 (by decide +kernel) (by decide +kernel)
theorem k416 : (Cond.selects "PageSkeleton$Row" ({ cls := "PageSkeleton$Row", name := "seal", desc := "()V" } : MethodName) ({ cls := "PageSkeleton$Row", name := "seal", desc := "()V" } : MethodName)) ∈ wsG := wsG_at 416 (by decide +kernel) (by decide +kernel)
theorem k417 : (Cond.code ({ cls := "PageSkeleton$Row", name := "seal", desc := "()V" } : MethodName) prog_6_method_7_code (5 : Nat) (Option.none : Option Jvm.ClassFile.FieldType)) ∈ wsG := wsG_at 417 (by decide +kernel) (by decide +kernel)
theorem dX4_load_0 : decode cX4_load 0 = .ok (.aload_n 0, 1) := by decide +kernel
theorem dX4_load_1 : decode cX4_load 1 = .ok (.invokevirtual 52, 3) := by decide +kernel
theorem dX4_load_4 : decode cX4_load 4 = .ok (.iconst 0, 1) := by decide +kernel
theorem dX4_load_5 : decode cX4_load 5 = .ok (.istore_n 3, 1) := by decide +kernel
theorem dX4_load_6 : decode cX4_load 6 = .ok (.iload_n 3, 1) := by decide +kernel
theorem dX4_load_7 : decode cX4_load 7 = .ok (.iload_n 2, 1) := by decide +kernel
theorem dX4_load_8 : decode cX4_load 8 = .ok (.if_icmp .ge 22, 3) := by decide +kernel
theorem dX4_load_11 : decode cX4_load 11 = .ok (.iload_n 3, 1) := by decide +kernel
theorem dX4_load_12 : decode cX4_load 12 = .ok (.aload_n 1, 1) := by decide +kernel
theorem dX4_load_13 : decode cX4_load 13 = .ok (.arraylength, 1) := by decide +kernel
theorem dX4_load_14 : decode cX4_load 14 = .ok (.if_icmp .ge 16, 3) := by decide +kernel
theorem dX4_load_17 : decode cX4_load 17 = .ok (.aload_n 0, 1) := by decide +kernel
theorem dX4_load_18 : decode cX4_load 18 = .ok (.aload_n 1, 1) := by decide +kernel
theorem dX4_load_19 : decode cX4_load 19 = .ok (.iload_n 3, 1) := by decide +kernel
theorem dX4_load_20 : decode cX4_load 20 = .ok (.iaload, 1) := by decide +kernel
theorem dX4_load_21 : decode cX4_load 21 = .ok (.invokevirtual 44, 3) := by decide +kernel
theorem dX4_load_24 : decode cX4_load 24 = .ok (.iinc 3 1, 3) := by decide +kernel
theorem dX4_load_27 : decode cX4_load 27 = .ok (.goto (-21), 3) := by decide +kernel
theorem dX4_load_30 : decode cX4_load 30 = .ok (.aload_n 0, 1) := by decide +kernel
theorem dX4_load_31 : decode cX4_load 31 = .ok (.invokevirtual 55, 3) := by decide +kernel
theorem dX4_load_34 : decode cX4_load 34 = .ok (.return_, 1) := by decide +kernel
/-! a row loaded from a line of signs -/
theorem SA_to {μ u : va_M} {c c2 : Nat} : ∀ (w : Rw) (p p2 : Nat), SA μ c w p → (∀ d, d < sL w → u c2 (p2 + d) = μ c (p + d)) → SA u c2 w p2
  | .leaf, _, _, _, _ => trivial
  | .inner z k v l r, p, p2, ⟨h1, h2, h3⟩, hf => by
    obtain ⟨d, hd, hd1, hd2⟩ := sL_d k l
    have hs : sL (Std.DTreeMap.Internal.Impl.inner z k v l r : Rw) = d + sL r := by rw [sL, hd]
    rw [hs] at hf
    unfold SA
    rw [hd] at h3 ⊢
    refine ⟨(hf 0 (by omega)).trans h1, fun h9 => ?_, SA_to r _ _ h3 (fun y hy => by rw [Nat.add_assoc, Nat.add_assoc]; exact hf _ (by omega))⟩
    have hd3 := hd2 h9
    obtain ⟨g1, g2⟩ := h2 h9
    refine ⟨SA_to l _ _ g1 (fun y hy => by rw [Nat.add_assoc, Nat.add_assoc]; exact hf _ (by omega)), ?_⟩
    rw [Nat.add_assoc] at g2 ⊢
    exact (hf _ (by omega)).trans g2
def rcut (rm : Nat) (w : Rw) : Rw := if sL w ≤ rm then w else .leaf
def LEq (q x y : Nat) : Prop := q ≤ x ∧ x ≤ q + 5
def LEw (q n x y : Nat) : Prop := LEq q x y ∧ (x = q + 2 → y < n)
theorem LEw_E {q n x y : Nat} (h : LEw q n x y) : LEq q x y := h.1
set_option maxHeartbeats 4000000 in
set_option maxRecDepth 100000 in
theorem LX4_load_6 {p : Program} {l : Launch} {e : Env} {R : Room} {s : State} {m : MethodId} {args : Array Value} {below : List Frame} {meth : Method} {c : Code} {cells slots : Nat} {Q : State → Prop} {dC : Nat → ClassId} {dI : Nat → Nat → Nat} {h0 : Nat} {cI cZ cII cIII : ClassId} (hx : p.tables.exec = Jvm.exec) (hb : c.code = cX4_load) (hml : c.maxLocals = 4) (hown : s.vm.findClass RX4 = some m.cls) (hts : ∀ w ∈ wsG, w.before args s = true) (hK : va_K (dC, dI) vwCl (sT cI cZ cII cIII) s) (hM : xM s) (hRf : 3 ≤ R.frames) (hRl : 58 ≤ R.locals) (hRc : cells ≤ R.cells) (hRs : slots ≤ R.slots) (μ0 : va_M) (q : Nat) (rm : Nat) (kc : Nat) (nc : Nat) (cnt : Int) (hq : rowB q rm) (hkc : kc < 233 ∧ (kc < q ∨ q + 6 ≤ kc) ∧ nc ≤ 1101) (hE : ∀ f, sE cI cZ cII cIII h0 kc f = .inl (cI, nc, .inl f)) (hcn : 0 ≤ cnt ∧ cnt ≤ nc) (hexit30 : ∀ (i : Int) (μ : va_M) (H : Heap) (locs : List Loc) (ls : Array Slot), (fr (fun x _ => x = q ∨ x = q + 1) μ0 μ) → ((cnt ≤ rm ∧ μ q 5 = cnt ∧ μ q 7 = 0) ∨ (rm < cnt ∧ μ q 5 = rm ∧ μ q 7 = 1)) → (∀ j : Nat, (j : Int) < cnt → j < rm → μ (q + 1) j = μ0 kc j) → (∀ j : Nat, μ (q + 1) j = μ0 (q + 1) j ∨ μ (q + 1) j = μ0 kc j) → va_P (dC, dI) vwCl (fw (sE cI cZ cII cIII h0) h0 233 μ) H → va_S (fA h0 233 s.heap.size) s.heap H locs → lv_has ls 4 [(0, .ref (h0 + q))] → W p l e R s m args below meth c H locs cells slots Q (F0 m 30 ls [])) :
    ∀ (n9 : Nat) (i : Int) (μ : va_M) (H : Heap) (locs : List Loc) (ls : Array Slot), (0 ≤ i ∧ i ≤ cnt) → (fr (fun x _ => x = q ∨ x = q + 1) μ0 μ) → ((i ≤ rm ∧ μ q 5 = i ∧ μ q 7 = 0) ∨ (rm < i ∧ μ q 5 = rm ∧ μ q 7 = 1)) → (∀ j : Nat, (j : Int) < i → j < rm → μ (q + 1) j = μ0 kc j) → (∀ j : Nat, μ (q + 1) j = μ0 (q + 1) j ∨ μ (q + 1) j = μ0 kc j) → (1102 - i).toNat < n9 → va_P (dC, dI) vwCl (fw (sE cI cZ cII cIII h0) h0 233 μ) H → va_S (fA h0 233 s.heap.size) s.heap H locs → lv_has ls 4 [(3, .int (iZ (i))), (2, .int (iZ (cnt))), (1, .ref (h0 + kc)), (0, .ref (h0 + q))] → W p l e R s m args below meth c H locs cells slots Q (F0 m 6 ls []) := by
  intro n9
  induction n9 with
  | zero => intro i μ H locs ls hi hf hs hc hg hm9 hP hS hl; exact absurd hm9 (Nat.not_lt_zero _)
  | succ n9 ih =>
    intro i μ H locs ls hi hf hs hc hg hm9 hP hS hl
    have hqb := rowB_b hq
    refine lv_iload_n hx hb dX4_load_6 rfl (lv_at hl 0 rfl) ?_
    refine lv_iload_n hx hb dX4_load_7 rfl (lv_at hl 1 rfl) ?_
    refine fz_icmp_ge (tgt := 30) (by constructor <;> omega) (by constructor <;> omega) hx hb dX4_load_8 (by decide) (fun c8_ => ?_) (fun c8_ => ?_)
    · exact hexit30 (i) μ H locs ls (by exact hf) (by
                    have : i = cnt := by omega
                    rw [← this]; exact hs) (by intro j hj hj2; exact hc j (by omega) hj2) (by exact hg) hP hS (lv_sub hl [3] rfl)
    · refine lv_iload_n hx hb dX4_load_11 rfl (lv_at hl 0 rfl) ?_
      refine lv_aload_n hx hb dX4_load_12 rfl (lv_at hl 2 rfl) ?_
      refine fz_len (k := kc) (n := nc) hx hb hK hP 0 (by omega) hE rfl dX4_load_13 ?_
      refine fz_icmp_ge (tgt := 30) (by constructor <;> omega) (by constructor <;> omega) hx hb dX4_load_14 (by decide) (fun c14_ => ?_) (fun c14_ => ?_)
      · exact hexit30 (i) μ H locs ls (by exact hf) (by
                        have : i = cnt := by omega
                        rw [← this]; exact hs) (by intro j hj hj2; exact hc j (by omega) hj2) (by exact hg) hP hS (lv_sub hl [3] rfl)
      · refine lv_aload_n hx hb dX4_load_17 rfl (lv_at hl 3 rfl) ?_
        refine lv_aload_n hx hb dX4_load_18 rfl (lv_at hl 2 rfl) ?_
        refine lv_iload_n hx hb dX4_load_19 rfl (lv_at hl 0 rfl) ?_
        refine fz_ld (k := kc) (n := nc) hx hb hK hP 0 (by omega) hE rfl ⟨by omega, by omega⟩ (by omega) dX4_load_20 ?_
        refine va_callv (va_runV (As := [.int (iZ (μ kc (i).toNat))]) (rest := []) ⟨hx, hb, hml, hown, hts⟩ (s_Rput l dC dI cI cZ cII cIII h0 H.size μ (q) (rm) (μ kc (i).toNat) (hq) (by first | assumption | omega | exact ⟨by omega, by omega⟩)) (cwV 1 hts (gV_G k410 k411 k412 k3 k413) rfl rfl rfl (by decide +kernel) ⟨by show 1 + 1 ≤ _; omega, by show 8 + (2 + 11) + (14) ≤ _; omega⟩) ⟨fun a U g mk q => by obtain ⟨q0, q1, qP, qK, qM⟩ := q; exact ⟨q0, q1, qP, va_K.moved (u := U) (U := U.calling g mk a) (Vm.Alike.refl U.vm) qK, qM⟩, va_recv hK hP (ci := 4) (q0 := q) rfl ((fw_get (by omega)).trans (by rw [(sE_rowO hq)])), fun U hU hW => ⟨rfl, by rw [hU], by rw [hU]; exact hP, va_K.moved hW.alike hK, xM_warm hW hM⟩⟩ rfl rfl hl.1 rfl (lv_room (Nat.le_of_ble_eq_true rfl)) dX4_load_21 ⟨hRc, hRs⟩) hS (fun q _ h => fA_le hS.1 q h) (fA_le hS.1) (fun u9 t9 H1 locs ht9 hvm9 hw9 hB9 hz9 hk9 hS => ?_)
        obtain ⟨hP, -⟩ := hB9
        rw [ht9] at hP
        generalize H1 = H at hP hS ⊢
        obtain ⟨μp, eμp⟩ : ∃ x : va_M, x = u9 := ⟨_, rfl⟩
        rw [← eμp] at hP hw9
        have hμp := hw9; clear hw9
        obtain ⟨c1, c2⟩ := hμp
        have ek : μ kc i.toNat = μ0 kc i.toNat := hf _ _ (by omega)
        have e5 : (μ q 5 < rm → (μ q 5).toNat = i.toNat ∧ i < rm) := fun h => by omega
        have hfp : fr (fun x _ => x = q ∨ x = q + 1) μ μp := by
          by_cases h9 : μ q 5 < rm
          · rw [c1 h9]; exact fr_uz (fr_uz fr_rfl (Or.inr rfl)) (Or.inl rfl)
          · rw [c2 h9]; exact fr_uz fr_rfl (Or.inl rfl)
        refine lv_iinc (v := iZ (i + 1)) (lv' := [(3, .int (iZ (i + 1))), (2, .int (iZ (cnt))), (1, .ref (h0 + kc)), (0, .ref (h0 + q))]) hx hb dX4_load_24 hl (k := 0) rfl (iZ_add _ _) (by decide) rfl (fun ls hl => ?_)
        refine lv_goto (tgt := 6) hx hb dX4_load_27 (by decide) ?_
        exact ih (i + 1) μp H locs ls (by omega) (by exact fr_trans hf hfp) (by
                        by_cases h9 : μ q 5 < rm
                        · refine Or.inl ⟨by omega, ?_, ?_⟩
                          · rw [c1 h9, uz_s]; omega
                          · rw [c1 h9, uz_n (by omega), uz_n (by omega)]; omega
                        · refine Or.inr ⟨by omega, ?_, ?_⟩
                          · rw [c2 h9, uz_n (by omega)]; omega
                          · rw [c2 h9, uz_s]) (by
                        intro j hj hj2
                        by_cases h9 : μ q 5 < rm
                        · have e9 := (e5 h9).1
                          rw [c1 h9, uz_n (by omega), e9]
                          by_cases h8 : j = i.toNat
                          · rw [h8, uz_s]; exact ek
                          · rw [uz_n (by omega)]; exact hc j (by omega) hj2
                        · rw [c2 h9, uz_n (by omega)]; exact hc j (by omega) hj2) (by
                        intro j
                        by_cases h9 : μ q 5 < rm
                        · rw [c1 h9, uz_n (by omega)]
                          by_cases h8 : j = (μ q 5).toNat
                          · rw [h8, uz_s, (e5 h9).1]; exact Or.inr ek
                          · rw [uz_n (by omega)]; exact hg j
                        · rw [c2 h9, uz_n (by omega)]; exact hg j) (by omega) hP hS (lv_sub hl [0, 1, 2, 3] rfl)
set_option maxHeartbeats 4000000 in
set_option maxRecDepth 100000 in
theorem s_Rload (l : Launch) (dC : Nat → ClassId) (dI : Nat → Nat → Nat) (cI cZ cII cIII : ClassId) (h0 sz : Nat) (μ : va_M) (q : Nat) (rm : Nat) (kc : Nat) (nc : Nat) (cnt : Int) (w : Rw) (hq : rowB q rm) (hkc : kc < 233 ∧ (kc < q ∨ q + 6 ≤ kc) ∧ nc ≤ 1101) (hE : ∀ f, sE cI cZ cII cIII h0 kc f = .inl (cI, nc, .inl f)) (hcn : cnt = sL w ∧ cnt ≤ nc) (hwf : rW0 w) (hA : SA μ kc w 0) : Met l yX4_load (Cond.code yX4_load cX4_load 4 none :: wsG) ({ frames := 3, cells := 0, slots := 0, locals := 58 } : Room) (va_Pc [.ref (h0 + q), .ref (h0 + kc), .int (iZ (cnt))] (fun U => U.heap.size = sz ∧ va_P (dC, dI) vwCl (fw (sE cI cZ cII cIII h0) h0 233 μ) U.heap ∧ va_K (dC, dI) vwCl (sT cI cZ cII cIII) U ∧ xM U)) (va_Qv (fun (u : va_M) => rowS u q (rcut rm w) ∧ fr (LEw q (sL (rcut rm w))) μ u ∧ ∀ j : Nat, u (q + 1) j = μ (q + 1) j ∨ u (q + 1) j = μ kc j) (fun u t => va_P (dC, dI) vwCl (fw (sE cI cZ cII cIII h0) h0 233 u) t.heap ∧ va_K (dC, dI) vwCl (sT cI cZ cII cIII) t) (fA h0 233 sz)) 0 0 (fA h0 233 sz) := by
  refine Met.ofW (cc := cX4_load) (maxL := 4) (ret := none) (by decide) rfl ?_
  intro p e s m args below meth c s₁ B hml hv
  obtain ⟨rfl, hsz, hP, hK, hM⟩ := hv
  have hx := B.exec
  have hb := B.bytes
  have hr := B.returns
  have hts : ∀ w ∈ wsG, w.before _ s = true := hG_of (atoms_spec (ws := (Cond.code yX4_load cX4_load 4 none :: wsG)) B.pre)
  have hown : s.vm.findClass RX4 = some m.cls := findClass_of_methodNamed B.named
  have hlocks := B.notSynchronized
  subst hsz
  have hS : va_S (fA h0 233 s.heap.size) s.heap s.heap [] := va_S.rf
  have hl := lv_entry ([.ref (h0 + q), .ref (h0 + kc), .int (iZ (cnt))]) (n := 4) (Nat.le_of_ble_eq_true rfl)
  rw [lg_entry_eq]
  generalize (lg_sl ([.ref (h0 + q), .ref (h0 + kc), .int (iZ (cnt))]) ++ List.replicate (4 - (lg_sl ([.ref (h0 + q), .ref (h0 + kc), .int (iZ (cnt))])).length) Slot.unset).toArray = ls at hl ⊢
  have hl : lv_has ls 4 [(0, .ref (h0 + q)), (1, .ref (h0 + kc)), (2, .int (iZ (cnt)))] := hl
  have hqb := rowB_b hq
  refine lv_aload_n hx hb dX4_load_0 rfl (lv_at hl 0 rfl) ?_
  refine va_callv (va_runV (As := []) (rest := []) ⟨hx, hb, hml, hown, hts⟩ (s_Rempty l dC dI cI cZ cII cIII h0 s.heap.size μ (q) (rm) (hq)) (cwV 0 hts (gV_G k406 k407 k408 k3 k409) rfl rfl rfl (by decide +kernel) ⟨Nat.le_of_ble_eq_true rfl, Nat.le_of_ble_eq_true rfl⟩) ⟨fun a U g mk q => by obtain ⟨q0, q1, qP, qK, qM⟩ := q; exact ⟨q0, q1, qP, va_K.moved (u := U) (U := U.calling g mk a) (Vm.Alike.refl U.vm) qK, qM⟩, va_recv hK hP (ci := 4) (q0 := q) rfl ((fw_get (by omega)).trans (by rw [(sE_rowO hq)])), fun U hU hW => ⟨rfl, by rw [hU], by rw [hU]; exact hP, va_K.moved hW.alike hK, xM_warm hW hM⟩⟩ rfl rfl hl.1 rfl (lv_room (Nat.le_of_ble_eq_true rfl)) dX4_load_1 ⟨Nat.le_of_ble_eq_true rfl, Nat.le_of_ble_eq_true rfl⟩) hS (fun q _ h => fA_le hS.1 q h) (fA_le hS.1) (fun u9 t9 H1 locs ht9 hvm9 hw9 hB9 hz9 hk9 hS => ?_)
  obtain ⟨hP, -⟩ := hB9
  rw [ht9] at hP
  generalize H1 = H at hP hS ⊢
  obtain ⟨μe, eμe⟩ : ∃ x : va_M, x = u9 := ⟨_, rfl⟩
  rw [← eμe] at hP hw9
  have hμe := hw9; clear hw9
  have he := hμe
  have hfe : fr (fun x _ => x = q ∨ x = q + 1) μ μe := by rw [he]; exact fr_uz (fr_uz fr_rfl (Or.inl rfl)) (Or.inl rfl)
  refine lv_iconst (v := iZ 0) hx hb dX4_load_4 rfl ?_
  refine lv_istore_n (lv' := [(3, .int (iZ (0))), (0, .ref (h0 + q)), (1, .ref (h0 + kc)), (2, .int (iZ (cnt)))]) hx hb dX4_load_5 rfl hl (by decide) rfl (fun ls hl => ?_)
  refine LX4_load_6 hx hb hml hown hts hK hM (Nat.le_of_ble_eq_true rfl) (Nat.le_of_ble_eq_true rfl) (Nat.le_of_ble_eq_true rfl) (Nat.le_of_ble_eq_true rfl) (μe) (q) (rm) (kc) (nc) (cnt) (by assumption) (by exact hkc) (by exact hE) (by omega) ?_ _ (0) μe H locs ls (by omega) (by exact fr_rfl) (by
            refine Or.inl ⟨by omega, ?_, ?_⟩
            · rw [he, uz_n (by omega), uz_s]
            · rw [he, uz_s]) (by intro j hj; omega) (by intro j; exact Or.inl rfl) (Nat.lt_succ_self _) hP hS (lv_sub hl [0, 3, 2, 1] rfl)
  · intro i_1 μ1_ H locs ls q1_1 q2_1 q3_1 q4_1 hP hS hl
    have hl : lv_has ls 4 [(0, .ref (h0 + q))] := hl
    have G1_ := q1_1
    have G2_ := q2_1
    have G3_ := q3_1
    have G4_ := q4_1
    refine lv_aload_n hx hb dX4_load_30 rfl (lv_at hl 0 rfl) ?_
    refine va_callv (va_runV (As := []) (rest := []) ⟨hx, hb, hml, hown, hts⟩ (s_Rseal l dC dI cI cZ cII cIII h0 H.size μ1_ (q) (rm) (rcut rm w) (hq) (by omega) (by
                unfold rcut
                by_cases h9 : sL w ≤ rm
                · rw [if_pos h9]
                  refine ⟨hwf, Or.inl ⟨by omega, SA_to w 0 0 hA (fun y hy => ?_), by omega⟩⟩
                  rw [Nat.zero_add, G3_ y (by omega) (by omega)]
                  exact hfe _ _ (by omega)
                · rw [if_neg h9]
                  exact ⟨trivial, Or.inr ⟨by omega, rfl⟩⟩)) (cwV 0 hts (gV_G k414 k415 k416 k3 k417) rfl rfl rfl (by decide +kernel) ⟨Nat.le_of_ble_eq_true rfl, Nat.le_of_ble_eq_true rfl⟩) ⟨fun a U g mk q => by obtain ⟨q0, q1, qP, qK, qM⟩ := q; exact ⟨q0, q1, qP, va_K.moved (u := U) (U := U.calling g mk a) (Vm.Alike.refl U.vm) qK, qM⟩, va_recv hK hP (ci := 4) (q0 := q) rfl ((fw_get (by omega)).trans (by rw [(sE_rowO hq)])), fun U hU hW => ⟨rfl, by rw [hU], by rw [hU]; exact hP, va_K.moved hW.alike hK, xM_warm hW hM⟩⟩ rfl rfl hl.1 rfl (lv_room (Nat.le_of_ble_eq_true rfl)) dX4_load_31 ⟨Nat.le_of_ble_eq_true rfl, Nat.le_of_ble_eq_true rfl⟩) hS (fun q _ h => fA_le hS.1 q h) (fA_le hS.1) (fun u9 t9 H1 locs ht9 hvm9 hw9 hB9 hz9 hk9 hS => ?_)
    obtain ⟨hP, -⟩ := hB9
    rw [ht9] at hP
    generalize H1 = H at hP hS ⊢
    obtain ⟨μs, eμs⟩ : ∃ x : va_M, x = u9 := ⟨_, rfl⟩
    rw [← eμs] at hP hw9
    have hμs := hw9; clear hw9
    exact W.vret hx hb hr (fun t9 ht9 hW9 => ⟨⟨μs, rfl, (by
                try dsimp only
                obtain ⟨d1_, d2_⟩ := hμs
                refine ⟨d1_, ?_, fun j => ?_⟩
                · exact fr_trans (fr_mono (fr_trans hfe G1_) (fun x y h => by unfold LEw LEq; omega)) (fr_mono d2_ (fun x y h => by unfold SEw SEq at h; unfold LEw LEq; omega))
                · have k1 := d2_ (q + 1) j (by unfold SEw SEq; omega)
                  have k2 := hfe kc j (by omega)
                  have k3 : μe (q + 1) j = μ (q + 1) j := by rw [he, uz_n (by omega), uz_n (by omega)]
                  rw [k1, ← k2, ← k3]
                  exact G4_ j), by rw [ht9]; exact hP, va_K.moved hW9.alike hK⟩, hS.F ht9⟩) hS.2.2 dX4_load_34

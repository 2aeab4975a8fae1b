theorem k1389 : (Cond.methodLink "PageSkeletonModel" (225 : Nat) ({ cls := "PageSkeletonModel", name := "lists", desc := "(III[I)I" } : MethodName)) ∈ wsG := wsG_at 1389 (by decide +kernel) (by decide +kernel)
theorem k1391 : (Cond.instanceMethod ({ cls := "PageSkeletonModel", name := "lists", desc := "(III[I)I" } : MethodName)) ∈ wsG := wsG_at 1391 (by decide +kernel) (by decide +kernel)
theorem k1392 : (Cond.code ({ cls := "PageSkeletonModel", name := "lists", desc := "(III[I)I" } : MethodName) prog_12_method_28_code (7 : Nat) (Option.some FieldType.int)) ∈ wsG := wsG_at 1392 (by decide +kernel) (by decide +kernel)
theorem ks_yX10_lists : Cond.selects RX10 yX10_lists yX10_lists ∈ wsG := wsG_mem (by decide +kernel) (by decide +kernel)
theorem dX10_foldsOne_0 : decode cX10_foldsOne 0 = .ok (.aload_n 0, 1) := by decide +kernel
theorem dX10_foldsOne_1 : decode cX10_foldsOne 1 = .ok (.iload_n 1, 1) := by decide +kernel
theorem dX10_foldsOne_2 : decode cX10_foldsOne 2 = .ok (.iconst 0, 1) := by decide +kernel
theorem dX10_foldsOne_3 : decode cX10_foldsOne 3 = .ok (.aload_n 0, 1) := by decide +kernel
theorem dX10_foldsOne_4 : decode cX10_foldsOne 4 = .ok (.getfield 54, 3) := by decide +kernel
theorem dX10_foldsOne_7 : decode cX10_foldsOne 7 = .ok (.iload_n 1, 1) := by decide +kernel
theorem dX10_foldsOne_8 : decode cX10_foldsOne 8 = .ok (.iaload, 1) := by decide +kernel
theorem dX10_foldsOne_9 : decode cX10_foldsOne 9 = .ok (.aload_n 0, 1) := by decide +kernel
theorem dX10_foldsOne_10 : decode cX10_foldsOne 10 = .ok (.getfield 64, 3) := by decide +kernel
theorem dX10_foldsOne_13 : decode cX10_foldsOne 13 = .ok (.iconst 0, 1) := by decide +kernel
theorem dX10_foldsOne_14 : decode cX10_foldsOne 14 = .ok (.aaload, 1) := by decide +kernel
theorem dX10_foldsOne_15 : decode cX10_foldsOne 15 = .ok (.invokevirtual 225, 3) := by decide +kernel
theorem dX10_foldsOne_18 : decode cX10_foldsOne 18 = .ok (.istore_n 2, 1) := by decide +kernel
theorem dX10_foldsOne_19 : decode cX10_foldsOne 19 = .ok (.aload_n 0, 1) := by decide +kernel
theorem dX10_foldsOne_20 : decode cX10_foldsOne 20 = .ok (.getfield 64, 3) := by decide +kernel
theorem dX10_foldsOne_23 : decode cX10_foldsOne 23 = .ok (.iconst 0, 1) := by decide +kernel
theorem dX10_foldsOne_24 : decode cX10_foldsOne 24 = .ok (.aaload, 1) := by decide +kernel
theorem dX10_foldsOne_25 : decode cX10_foldsOne 25 = .ok (.astore_n 3, 1) := by decide +kernel
theorem dX10_foldsOne_26 : decode cX10_foldsOne 26 = .ok (.iconst 1, 1) := by decide +kernel
theorem dX10_foldsOne_27 : decode cX10_foldsOne 27 = .ok (.istore 4, 2) := by decide +kernel
theorem dX10_foldsOne_29 : decode cX10_foldsOne 29 = .ok (.iconst 2, 1) := by decide +kernel
theorem dX10_foldsOne_30 : decode cX10_foldsOne 30 = .ok (.iload 4, 2) := by decide +kernel
theorem dX10_foldsOne_32 : decode cX10_foldsOne 32 = .ok (.imul, 1) := by decide +kernel
theorem dX10_foldsOne_33 : decode cX10_foldsOne 33 = .ok (.iload_n 2, 1) := by decide +kernel
theorem dX10_foldsOne_34 : decode cX10_foldsOne 34 = .ok (.if_icmp .gt 134, 3) := by decide +kernel
theorem dX10_foldsOne_37 : decode cX10_foldsOne 37 = .ok (.iconst 0, 1) := by decide +kernel
theorem dX10_foldsOne_38 : decode cX10_foldsOne 38 = .ok (.istore 5, 2) := by decide +kernel
theorem dX10_foldsOne_154 : decode cX10_foldsOne 154 = .ok (.iconst 1, 1) := by decide +kernel
theorem dX10_foldsOne_155 : decode cX10_foldsOne 155 = .ok (.ireturn, 1) := by decide +kernel
theorem dX10_foldsOne_162 : decode cX10_foldsOne 162 = .ok (.iinc 4 1, 3) := by decide +kernel
theorem dX10_foldsOne_165 : decode cX10_foldsOne 165 = .ok (.goto (-136), 3) := by decide +kernel
theorem dX10_foldsOne_168 : decode cX10_foldsOne 168 = .ok (.iconst 0, 1) := by decide +kernel
theorem dX10_foldsOne_169 : decode cX10_foldsOne 169 = .ok (.ireturn, 1) := by decide +kernel
/-- what a fold may change -/
def FQ (t x y : Nat) : Prop := x = 723 ∨ FP t x y
set_option maxHeartbeats 4000000 in
set_option maxRecDepth 100000 in
theorem LX10_foldsOne_29 {p : Program} {l : Launch} {e : Env} {R : Room} {s : State} {m : MethodId} {args : Array Value} {below : List Frame} {meth : Method} {c : Code} {cells slots : Nat} {Q : State → Prop} {dC : Nat → ClassId} {dI : Nat → Nat → Nat} {h0 : Nat} {cI cZ cII cIII : ClassId} (hx : p.tables.exec = Jvm.exec) (hb : c.code = cX10_foldsOne) (hml : c.maxLocals = 7) (hown : s.vm.findClass RX10 = some m.cls) (hts : ∀ w ∈ wsG, w.before args s = true) (hK : va_K (dC, dI) vwCl (mT cI cZ cII cIII) s) (hRf : 25 ≤ R.frames) (hRl : 800 ≤ R.locals) (hRc : cells ≤ R.cells) (hRs : slots ≤ R.slots) (μ0 : va_M) (t : Int) (q : Nat) (m9 : Int) (w : Rw) (ht : 0 ≤ t ∧ t < 70) (hq : (723 ≤ q ∧ q < 737) ∨ (738 ≤ q ∧ q < 752)) (hR : RA μ0 t.toNat w 0) (hN : rN w ≤ 900) (hwf : rWF w) (hHH : rH w ≤ 20) (hrow : rowIs μ0 q w 0) (h260 : rI w ≤ 260) (hm9 : m9 = rI w) (ht3 : t ≠ 50 ∧ t ≠ 51 ∧ t ≠ 52) (hnod : μ0 719 t.toNat = rN w) (hexit154 : ∀ (n1 : Int) (μ : va_M) (H : Heap) (locs : List Loc) (ls : Array Slot), (∃ a1 s1 c1 : Nat, isFold w a1 s1 c1 ∧ TR μ t.toNat (rput w a1 s1 c1) ∧ fr (FP t.toNat) μ0 μ ∧ fEx w a1 s1 c1) → va_P (dC, dI) vwCl (fw (mE cI cZ cII cIII h0) h0 6325 μ) H → va_S (fA h0 6325 s.heap.size) s.heap H locs → lv_has ls 7 [] → W p l e R s m args below meth c H locs cells slots Q (F0 m 154 ls [])) (hexit168 : ∀ (n1 : Int) (μ : va_M) (H : Heap) (locs : List Loc) (ls : Array Slot), (μ = μ0) → (noF w (rI w)) → va_P (dC, dI) vwCl (fw (mE cI cZ cII cIII h0) h0 6325 μ) H → va_S (fA h0 6325 s.heap.size) s.heap H locs → lv_has ls 7 [] → W p l e R s m args below meth c H locs cells slots Q (F0 m 168 ls [])) :
    ∀ (n9 : Nat) (n1 : Int) (μ : va_M) (H : Heap) (locs : List Loc) (ls : Array Slot), (μ = μ0) → (1 ≤ n1 ∧ n1 ≤ 300) → (2 ≤ n1 → noF w (rI w)) → (400 - n1).toNat < n9 → va_P (dC, dI) vwCl (fw (mE cI cZ cII cIII h0) h0 6325 μ) H → va_S (fA h0 6325 s.heap.size) s.heap H locs → lv_has ls 7 [(4, .int (iZ (n1))), (3, .ref (h0 + q)), (2, .int (iZ (m9))), (1, .int (iZ (t))), (0, .ref h0)] → W p l e R s m args below meth c H locs cells slots Q (F0 m 29 ls []) := by
  intro n9
  induction n9 with
  | zero => intro n1 μ H locs ls hm hs0 hno2 hm9 hP hS hl; exact absurd hm9 (Nat.not_lt_zero _)
  | succ n9 ih =>
    intro n1 μ H locs ls hm hs0 hno2 hm9 hP hS hl
    subst hm
    refine lv_iconst (v := iZ 2) hx hb dX10_foldsOne_29 rfl ?_
    refine lv_iload hx hb dX10_foldsOne_30 (lv_at hl 0 rfl) ?_
    refine lv_imul hx hb dX10_foldsOne_32 ?_
    refine lv_topi (fun x9 ex9 => ?_)
    obtain rfl : x9 = iZ (2 * n1) := ex9.trans (iZ_mul _ _)
    refine lv_iload_n hx hb dX10_foldsOne_33 rfl (lv_at hl 2 rfl) ?_
    refine fz_icmp_gt (tgt := 168) (by constructor <;> omega) (by constructor <;> omega) hx hb dX10_foldsOne_34 (by decide) (fun c34_ => ?_) (fun c34_ => ?_)
    · exact hexit168 (n1) μ H locs ls (by rfl) (by
                    by_cases h1 : n1 = 1
                    · intro x _ hx2; omega
                    · exact hno2 (by omega)) hP hS (lv_sub hl [] rfl)
    · refine lv_iconst (v := iZ 0) hx hb dX10_foldsOne_37 rfl ?_
      refine lv_istore (lv' := [(5, .int (iZ (0))), (4, .int (iZ (n1))), (3, .ref (h0 + q)), (2, .int (iZ (m9))), (1, .int (iZ (t))), (0, .ref h0)]) hx hb dX10_foldsOne_38 hl (by decide) rfl (fun ls hl => ?_)
      refine LX10_foldsOne_40 hx hb hml hown hts hK hRf hRl hRc hRs (μ) (t) (q) (m9) (w) (n1) (by assumption) (by assumption) (by assumption) (by assumption) (by assumption) (by assumption) (by assumption) (by assumption) (by assumption) (by assumption) (by assumption) (by omega) (by exact hno2) ?_ ?_ _ (0) μ H locs ls (by rfl) (by omega) (by intro _ x hx; exact absurd hx (Nat.not_lt_zero _)) (Nat.lt_succ_self _) hP hS (lv_sub hl [0, 1, 2, 3, 4, 5] rfl)
      · intro a_1 μ1_ H locs ls q5_1 hP hS hl
        have hl : lv_has ls 7 [] := hl
        exact hexit154 (0) μ1_ H locs ls (by exact q5_1) hP hS (lv_sub hl [] rfl)
      · intro a_2 μ2_ H locs ls q4_2 q9_2 hP hS hl
        have hl : lv_has ls 7 [(4, .int (iZ (n1))), (3, .ref (h0 + q)), (2, .int (iZ (m9))), (1, .int (iZ (t))), (0, .ref h0)] := hl
        have hPn := hP
        obtain rfl := q4_2
        have hP := hPn
        refine lv_iinc (v := iZ (n1 + 1)) (lv' := [(4, .int (iZ (n1 + 1))), (3, .ref (h0 + q)), (2, .int (iZ (m9))), (1, .int (iZ (t))), (0, .ref h0)]) hx hb dX10_foldsOne_162 hl (k := 0) rfl (iZ_add _ _) (by decide) rfl (fun ls hl => ?_)
        refine lv_goto (tgt := 29) hx hb dX10_foldsOne_165 (by decide) ?_
        exact ih (n1 + 1) μ2_ H locs ls (by rfl) (by omega) (by
                        intro _
                        by_cases h1 : n1 = 1
                        · exact q9_2 h1
                        · exact hno2 (by omega)) (by omega) hP hS (lv_sub hl [0, 1, 2, 3, 4] rfl)
set_option maxHeartbeats 40000000 in
set_option maxRecDepth 100000 in
theorem m_foldsOne (l : Launch) (dC : Nat → ClassId) (dI : Nat → Nat → Nat) (cI cZ cII cIII : ClassId) (h0 sz : Nat) (μ : va_M) (t : Int) (w : Rw) (ht : 0 ≤ t ∧ t < 70) (ht3 : t ≠ 50 ∧ t ≠ 51 ∧ t ≠ 52) (hT : TR μ t.toNat w) (hN : rN w ≤ 900) (hwf : rWF w) (hHH : rH w ≤ 20) (h260 : rI w ≤ 260) : Met l yX10_foldsOne (Cond.code yX10_foldsOne cX10_foldsOne 7 (some .boolean) :: wsG) ({ frames := 25, cells := 0, slots := 0, locals := 800 } : Room) (va_Pc [.ref h0, .int (iZ (t))] (fun U => U.heap.size = sz ∧ va_P (dC, dI) vwCl (fw (mE cI cZ cII cIII h0) h0 6325 μ) U.heap ∧ va_K (dC, dI) vwCl (mT cI cZ cII cIII) U)) (va_Qi (fun (r9 : Int32) (u : va_M × Int) => r9 = iZ u.2 ∧ (fun (u : va_M) (r : Int) => (r = 0 ∧ fr (fun x y => x = 723) μ u ∧ noF w (rI w)) ∨ (r = 1 ∧ ∃ a1 s1 c1 : Nat, isFold w a1 s1 c1 ∧ TR u t.toNat (rput w a1 s1 c1) ∧ fr (FQ t.toNat) μ u ∧ fEx w a1 s1 c1)) u.1 u.2) (fun u t => va_P (dC, dI) vwCl (fw (mE cI cZ cII cIII h0) h0 6325 u.1) t.heap ∧ va_K (dC, dI) vwCl (mT cI cZ cII cIII) t) (fA h0 6325 sz)) 0 0 (fA h0 6325 sz) := by
  refine Met.ofW (cc := cX10_foldsOne) (maxL := 7) (ret := (some .boolean)) (by decide) rfl ?_
  intro p e s m args below meth c s₁ B hml hv
  obtain ⟨rfl, hsz, hP, hK⟩ := hv
  have hx := B.exec
  have hb := B.bytes
  have hr := B.returns
  have hts : ∀ w ∈ wsG, w.before _ s = true := hG_of (atoms_spec (ws := (Cond.code yX10_foldsOne cX10_foldsOne 7 (some .boolean) :: wsG)) B.pre)
  have hown : s.vm.findClass RX10 = some m.cls := findClass_of_methodNamed B.named
  have hlocks := B.notSynchronized
  subst hsz
  have hS : va_S (fA h0 6325 s.heap.size) s.heap s.heap [] := va_S.rf
  have hl := lv_entry ([.ref h0, .int (iZ (t))]) (n := 7) (Nat.le_of_ble_eq_true rfl)
  rw [lg_entry_eq]
  generalize (lg_sl ([.ref h0, .int (iZ (t))]) ++ List.replicate (7 - (lg_sl ([.ref h0, .int (iZ (t))])).length) Slot.unset).toArray = ls at hl ⊢
  have hl : lv_has ls 7 [(0, .ref h0), (1, .int (iZ (t)))] := hl
  have hR : RA μ t.toNat w 0 := hT.2
  have hn0 : μ 719 t.toNat = rN w := hT.1
  refine lv_aload_n hx hb dX10_foldsOne_0 rfl (lv_at hl 0 rfl) ?_
  refine lv_iload_n hx hb dX10_foldsOne_1 rfl (lv_at hl 1 rfl) ?_
  refine lv_iconst (v := iZ 0) hx hb dX10_foldsOne_2 rfl ?_
  refine lv_aload_n hx hb dX10_foldsOne_3 rfl (lv_at hl 0 rfl) ?_
  refine fz_get (D := (dC, dI)) (ci := 10) (v := .ref (h0 + 719)) (C := RX10) (T := TX10) (N := 53) hx hb hts inG10 hown hK hP (k := 0) (by decide) (F := mF h0) mE_obj rfl 21 (by decide) (hts _ k1187) (fun _ h9 => h9) rfl dX10_foldsOne_4 ?_
  refine lv_iload_n hx hb dX10_foldsOne_7 rfl (lv_at hl 1 rfl) ?_
  refine fz_ld (k := 719) (n := 70) hx hb hK hP 0 (by decide) mE_nodes rfl ⟨by omega, by omega⟩ (by decide) dX10_foldsOne_8 ?_
  refine lv_aload_n hx hb dX10_foldsOne_9 rfl (lv_at hl 0 rfl) ?_
  refine fz_get (D := (dC, dI)) (ci := 10) (v := .ref (h0 + 722)) (C := RX10) (T := TX10) (N := 53) hx hb hts inG10 hown hK hP (k := 0) (by decide) (F := mF h0) mE_obj rfl 29 (by decide) (hts _ k1195) (fun _ h9 => h9) rfl dX10_foldsOne_10 ?_
  refine lv_iconst (v := iZ 0) hx hb dX10_foldsOne_13 rfl ?_
  refine fz_ald (k := 722) (n := 14) (k2 := (723 + 0)) hx hb hK hP 2 rfl (by decide) mE_rowS rfl ⟨by omega, by omega⟩ (by decide) (if_pos (by omega)) dX10_foldsOne_14 ?_
  refine va_calli (va_runV (As := [.int (iZ (t)), .int (iZ (0)), .int (iZ (μ 719 (t).toNat)), .ref (h0 + (723 + 0))]) (rest := []) ⟨hx, hb, hml, hown, hts⟩ (m_lists l dC dI cI cZ cII cIII h0 s.heap.size μ (t) (0) (μ 719 (t).toNat) ((723 + 0)) (w) (by first | assumption | omega | exact ⟨by omega, by omega⟩) (by omega) (by show μ 719 t.toNat = 0 + (rN w : Int); omega) (by exact hR) (by exact Or.inl (by decide)) (by first | assumption | omega | exact ⟨by omega, by omega⟩)) (cwV 4 hts (gV_G k1389 k1391 ks_yX10_lists k13 k1392) rfl rfl rfl (by decide +kernel) ⟨Nat.le_of_ble_eq_true rfl, Nat.le_of_ble_eq_true rfl⟩) ⟨fun a U g mk q => by obtain ⟨q0, q1, qP, qK⟩ := q; exact ⟨q0, q1, qP, va_K.moved (u := U) (U := U.calling g mk a) (Vm.Alike.refl U.vm) qK⟩, va_recv hK hP (ci := 10) (q0 := 0) rfl ((fw_get (by decide)).trans (by rw [mE_obj]; rfl)), fun U hU hW => ⟨rfl, by rw [hU], by rw [hU]; exact hP, va_K.moved hW.alike hK⟩⟩ rfl rfl hl.1 rfl (lv_room (Nat.le_of_ble_eq_true rfl)) dX10_foldsOne_15 ⟨Nat.le_of_ble_eq_true rfl, Nat.le_of_ble_eq_true rfl⟩) hS (fun q _ h => fA_le hS.1 q h) (fA_le hS.1) (fun r9 u9 t9 H1 locs ht9 hvm9 hw9 hB9 hz9 hk9 hS => ?_)
  obtain ⟨μa, ma⟩ := u9
  obtain ⟨hP, -⟩ := hB9
  rw [ht9] at hP
  generalize H1 = H at hP hS ⊢
  obtain ⟨e9, hw9⟩ := hw9
  have e9 : r9 = iZ ma := e9
  subst e9
  simp only at hP hw9
  have hμa := hw9; clear hw9
  have fa : fr (fun x y => x = 723) μ μa := hμa.2.2
  have hka : ∀ x, μa (507 + t.toNat) x = μ (507 + t.toNat) x ∧ μa (578 + t.toNat) x = μ (578 + t.toNat) x ∧ μa (649 + t.toNat) x = μ (649 + t.toNat) x := fun x => ⟨fa _ _ (by show ¬ _ = 723; omega), fa _ _ (by show ¬ _ = 723; omega), fa _ _ (by show ¬ _ = 723; omega)⟩
  have hma : ma = rI w := hμa.1
  refine lv_istore_n (lv' := [(2, .int (iZ (ma))), (0, .ref h0), (1, .int (iZ (t)))]) hx hb dX10_foldsOne_18 rfl hl (by decide) rfl (fun ls hl => ?_)
  refine lv_aload_n hx hb dX10_foldsOne_19 rfl (lv_at hl 1 rfl) ?_
  refine fz_get (D := (dC, dI)) (ci := 10) (v := .ref (h0 + 722)) (C := RX10) (T := TX10) (N := 53) hx hb hts inG10 hown hK hP (k := 0) (by decide) (F := mF h0) mE_obj rfl 29 (by decide) (hts _ k1195) (fun _ h9 => h9) rfl dX10_foldsOne_20 ?_
  refine lv_iconst (v := iZ 0) hx hb dX10_foldsOne_23 rfl ?_
  refine fz_ald (k := 722) (n := 14) (k2 := (723 + 0)) hx hb hK hP 2 rfl (by decide) mE_rowS rfl ⟨by omega, by omega⟩ (by decide) (if_pos (by omega)) dX10_foldsOne_24 ?_
  refine lv_astore_n (lv' := [(3, .ref (h0 + (723 + 0))), (2, .int (iZ (ma))), (0, .ref h0), (1, .int (iZ (t)))]) hx hb dX10_foldsOne_25 rfl hl (by decide) rfl (fun ls hl => ?_)
  refine lv_iconst (v := iZ 1) hx hb dX10_foldsOne_26 rfl ?_
  refine lv_istore (lv' := [(4, .int (iZ (1))), (3, .ref (h0 + (723 + 0))), (2, .int (iZ (ma))), (0, .ref h0), (1, .int (iZ (t)))]) hx hb dX10_foldsOne_27 hl (by decide) rfl (fun ls hl => ?_)
  refine LX10_foldsOne_29 hx hb hml hown hts hK (Nat.le_of_ble_eq_true rfl) (Nat.le_of_ble_eq_true rfl) (Nat.le_of_ble_eq_true rfl) (Nat.le_of_ble_eq_true rfl) (μa) (t) ((723 + 0)) (ma) (w) (by exact ⟨by omega, by omega⟩) (by exact Or.inl (by decide)) (by exact RA_kept hR (fun x _ _ => hka x)) (by assumption) (by assumption) (by assumption) (by intro m hm; have := hμa.2.1 m hm; omega) (by assumption) (by assumption) (by assumption) (by rw [fa _ _ (by show ¬ _ = 723; omega)]; exact hn0) ?_ ?_ _ (1) μa H locs ls (by rfl) (by omega) (by intro h; omega) (Nat.lt_succ_self _) hP hS (lv_sub hl [0, 1, 2, 4, 3] rfl)
  · intro n1_3 μ3_ H locs ls q7_3 hP hS hl
    have hl : lv_has ls 7 [] := hl
    refine lv_iconst (v := iZ 1) hx hb dX10_foldsOne_154 rfl ?_
    exact W.zret (v := iZ (1)) hx hb hr (by decide +kernel) (fun t9 ht9 hW9 => ⟨⟨iZ (1), (μ3_, 1), rfl, ⟨rfl, (by
                dsimp only
                obtain ⟨a1, s1, c1, h1, h2, h3, h4⟩ := q7_3
                exact Or.inr ⟨rfl, a1, s1, c1, h1, h2, fr_trans (fr_mono fa (fun _ _ h => Or.inl h)) (fr_mono h3 (fun _ _ h => Or.inr h)), h4⟩)⟩, by rw [ht9]; exact hP, va_K.moved hW9.alike hK⟩, hS.F ht9⟩) hS.2.2 dX10_foldsOne_155
  · intro n1_4 μ4_ H locs ls q6_4 q10_4 hP hS hl
    have hl : lv_has ls 7 [] := hl
    refine lv_iconst (v := iZ 0) hx hb dX10_foldsOne_168 rfl ?_
    exact W.zret (v := iZ (0)) hx hb hr (by decide +kernel) (fun t9 ht9 hW9 => ⟨⟨iZ (0), (μ4_, 0), rfl, ⟨rfl, (by
                dsimp only
                exact Or.inl ⟨rfl, by rw [q6_4]; exact fa, q10_4⟩)⟩, by rw [ht9]; exact hP, va_K.moved hW9.alike hK⟩, hS.F ht9⟩) hS.2.2 dX10_foldsOne_169

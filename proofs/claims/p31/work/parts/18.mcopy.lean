set_option maxRecDepth 100000 in
theorem k1377 : (Cond.methodLink "PageSkeletonModel" (197 : Nat) ({ cls := "PageSkeletonModel", name := "empties", desc := "(I)V" } : MethodName)) ∈ wsG := wsG_a6 177 rfl rfl
set_option maxRecDepth 100000 in
theorem k1379 : (Cond.instanceMethod ({ cls := "PageSkeletonModel", name := "empties", desc := "(I)V" } : MethodName)) ∈ wsG := wsG_a6 179 rfl rfl
set_option maxRecDepth 100000 in
theorem k1380 : (Cond.code ({ cls := "PageSkeletonModel", name := "empties", desc := "(I)V" } : MethodName) prog_12_method_17_code (2 : Nat) (Option.none : Option Jvm.ClassFile.FieldType)) ∈ wsG := wsG_a6 180 rfl rfl
set_option maxRecDepth 100000 in
theorem k1381 : (Cond.methodLink "PageSkeletonModel" (193 : Nat) ({ cls := "PageSkeletonModel", name := "adds", desc := "(III)I" } : MethodName)) ∈ wsG := wsG_a6 181 rfl rfl
set_option maxRecDepth 100000 in
theorem k1383 : (Cond.instanceMethod ({ cls := "PageSkeletonModel", name := "adds", desc := "(III)I" } : MethodName)) ∈ wsG := wsG_a6 183 rfl rfl
set_option maxRecDepth 100000 in
theorem k1384 : (Cond.code ({ cls := "PageSkeletonModel", name := "adds", desc := "(III)I" } : MethodName) prog_12_method_18_code (5 : Nat) (Option.some FieldType.int)) ∈ wsG := wsG_a6 184 rfl rfl
set_option maxRecDepth 100000 in
theorem k1416 : (Cond.methodLink "PageSkeletonModel" (200 : Nat) ({ cls := "PageSkeletonModel", name := "copies", desc := "(III)V" } : MethodName)) ∈ wsG := wsG_a6 216 rfl rfl
set_option maxRecDepth 100000 in
theorem k1418 : (Cond.instanceMethod ({ cls := "PageSkeletonModel", name := "copies", desc := "(III)V" } : MethodName)) ∈ wsG := wsG_a6 218 rfl rfl
set_option maxRecDepth 100000 in
theorem k1419 : (Cond.code ({ cls := "PageSkeletonModel", name := "copies", desc := "(III)V" } : MethodName) prog_12_method_20_code (6 : Nat) (Option.none : Option Jvm.ClassFile.FieldType)) ∈ wsG := wsG_a6 219 rfl rfl
set_option maxRecDepth 100000 in
theorem ks_yX10_adds : Cond.selects RX10 yX10_adds yX10_adds ∈ wsG := wsG_p 57 rfl rfl
set_option maxRecDepth 100000 in
theorem ks_yX10_copies : Cond.selects RX10 yX10_copies yX10_copies ∈ wsG := wsG_p 65 rfl rfl
set_option maxRecDepth 100000 in
theorem ks_yX10_empties : Cond.selects RX10 yX10_empties yX10_empties ∈ wsG := wsG_p 56 rfl rfl
theorem dX10_copies_0 : decode cX10_copies 0 = .ok (.iload_n 3, 1) := by decide +kernel
theorem dX10_copies_1 : decode cX10_copies 1 = .ok (.iconst (-1), 1) := by decide +kernel
theorem dX10_copies_2 : decode cX10_copies 2 = .ok (.if_icmp .ne 4, 3) := by decide +kernel
theorem dX10_copies_5 : decode cX10_copies 5 = .ok (.return_, 1) := by decide +kernel
theorem dX10_copies_6 : decode cX10_copies 6 = .ok (.iload_n 2, 1) := by decide +kernel
theorem dX10_copies_7 : decode cX10_copies 7 = .ok (.istore 4, 2) := by decide +kernel
theorem dX10_copies_9 : decode cX10_copies 9 = .ok (.iload 4, 2) := by decide +kernel
theorem dX10_copies_11 : decode cX10_copies 11 = .ok (.iload_n 2, 1) := by decide +kernel
theorem dX10_copies_12 : decode cX10_copies 12 = .ok (.aload_n 0, 1) := by decide +kernel
theorem dX10_copies_13 : decode cX10_copies 13 = .ok (.getfield 51, 3) := by decide +kernel
theorem dX10_copies_16 : decode cX10_copies 16 = .ok (.iload_n 1, 1) := by decide +kernel
theorem dX10_copies_17 : decode cX10_copies 17 = .ok (.aaload, 1) := by decide +kernel
theorem dX10_copies_18 : decode cX10_copies 18 = .ok (.iload_n 2, 1) := by decide +kernel
theorem dX10_copies_19 : decode cX10_copies 19 = .ok (.iaload, 1) := by decide +kernel
theorem dX10_copies_20 : decode cX10_copies 20 = .ok (.iadd, 1) := by decide +kernel
theorem dX10_copies_21 : decode cX10_copies 21 = .ok (.if_icmp .ge 52, 3) := by decide +kernel
theorem dX10_copies_24 : decode cX10_copies 24 = .ok (.aload_n 0, 1) := by decide +kernel
theorem dX10_copies_25 : decode cX10_copies 25 = .ok (.iload_n 3, 1) := by decide +kernel
theorem dX10_copies_26 : decode cX10_copies 26 = .ok (.aload_n 0, 1) := by decide +kernel
theorem dX10_copies_27 : decode cX10_copies 27 = .ok (.getfield 45, 3) := by decide +kernel
theorem dX10_copies_30 : decode cX10_copies 30 = .ok (.iload_n 1, 1) := by decide +kernel
theorem dX10_copies_31 : decode cX10_copies 31 = .ok (.aaload, 1) := by decide +kernel
theorem dX10_copies_32 : decode cX10_copies 32 = .ok (.iload 4, 2) := by decide +kernel
theorem dX10_copies_34 : decode cX10_copies 34 = .ok (.iaload, 1) := by decide +kernel
theorem dX10_copies_35 : decode cX10_copies 35 = .ok (.aload_n 0, 1) := by decide +kernel
theorem dX10_copies_36 : decode cX10_copies 36 = .ok (.getfield 48, 3) := by decide +kernel
theorem dX10_copies_39 : decode cX10_copies 39 = .ok (.iload_n 1, 1) := by decide +kernel
theorem dX10_copies_40 : decode cX10_copies 40 = .ok (.aaload, 1) := by decide +kernel
theorem dX10_copies_41 : decode cX10_copies 41 = .ok (.iload 4, 2) := by decide +kernel
theorem dX10_copies_43 : decode cX10_copies 43 = .ok (.iaload, 1) := by decide +kernel
theorem dX10_copies_44 : decode cX10_copies 44 = .ok (.invokevirtual 193, 3) := by decide +kernel
theorem dX10_copies_47 : decode cX10_copies 47 = .ok (.istore 5, 2) := by decide +kernel
theorem dX10_copies_49 : decode cX10_copies 49 = .ok (.aload_n 0, 1) := by decide +kernel
theorem dX10_copies_50 : decode cX10_copies 50 = .ok (.getfield 51, 3) := by decide +kernel
theorem dX10_copies_53 : decode cX10_copies 53 = .ok (.iload_n 3, 1) := by decide +kernel
theorem dX10_copies_54 : decode cX10_copies 54 = .ok (.aaload, 1) := by decide +kernel
theorem dX10_copies_55 : decode cX10_copies 55 = .ok (.iload 5, 2) := by decide +kernel
theorem dX10_copies_57 : decode cX10_copies 57 = .ok (.aload_n 0, 1) := by decide +kernel
theorem dX10_copies_58 : decode cX10_copies 58 = .ok (.getfield 51, 3) := by decide +kernel
theorem dX10_copies_61 : decode cX10_copies 61 = .ok (.iload_n 1, 1) := by decide +kernel
theorem dX10_copies_62 : decode cX10_copies 62 = .ok (.aaload, 1) := by decide +kernel
theorem dX10_copies_63 : decode cX10_copies 63 = .ok (.iload 4, 2) := by decide +kernel
theorem dX10_copies_65 : decode cX10_copies 65 = .ok (.iaload, 1) := by decide +kernel
theorem dX10_copies_66 : decode cX10_copies 66 = .ok (.iastore, 1) := by decide +kernel
theorem dX10_copies_67 : decode cX10_copies 67 = .ok (.iinc 4 1, 3) := by decide +kernel
theorem dX10_copies_70 : decode cX10_copies 70 = .ok (.goto (-61), 3) := by decide +kernel
theorem dX10_copies_73 : decode cX10_copies 73 = .ok (.return_, 1) := by decide +kernel
theorem dX10_copiesAll_0 : decode cX10_copiesAll 0 = .ok (.aload_n 0, 1) := by decide +kernel
theorem dX10_copiesAll_1 : decode cX10_copiesAll 1 = .ok (.iload_n 2, 1) := by decide +kernel
theorem dX10_copiesAll_2 : decode cX10_copiesAll 2 = .ok (.invokevirtual 197, 3) := by decide +kernel
theorem dX10_copiesAll_5 : decode cX10_copiesAll 5 = .ok (.iconst 0, 1) := by decide +kernel
theorem dX10_copiesAll_6 : decode cX10_copiesAll 6 = .ok (.istore_n 3, 1) := by decide +kernel
theorem dX10_copiesAll_7 : decode cX10_copiesAll 7 = .ok (.iload_n 3, 1) := by decide +kernel
theorem dX10_copiesAll_8 : decode cX10_copiesAll 8 = .ok (.aload_n 0, 1) := by decide +kernel
theorem dX10_copiesAll_9 : decode cX10_copiesAll 9 = .ok (.getfield 54, 3) := by decide +kernel
theorem dX10_copiesAll_12 : decode cX10_copiesAll 12 = .ok (.iload_n 1, 1) := by decide +kernel
theorem dX10_copiesAll_13 : decode cX10_copiesAll 13 = .ok (.iaload, 1) := by decide +kernel
theorem dX10_copiesAll_14 : decode cX10_copiesAll 14 = .ok (.if_icmp .ge 24, 3) := by decide +kernel
theorem dX10_copiesAll_17 : decode cX10_copiesAll 17 = .ok (.aload_n 0, 1) := by decide +kernel
theorem dX10_copiesAll_18 : decode cX10_copiesAll 18 = .ok (.iload_n 1, 1) := by decide +kernel
theorem dX10_copiesAll_19 : decode cX10_copiesAll 19 = .ok (.iload_n 3, 1) := by decide +kernel
theorem dX10_copiesAll_20 : decode cX10_copiesAll 20 = .ok (.iload_n 2, 1) := by decide +kernel
theorem dX10_copiesAll_21 : decode cX10_copiesAll 21 = .ok (.invokevirtual 200, 3) := by decide +kernel
theorem dX10_copiesAll_24 : decode cX10_copiesAll 24 = .ok (.iload_n 3, 1) := by decide +kernel
theorem dX10_copiesAll_25 : decode cX10_copiesAll 25 = .ok (.aload_n 0, 1) := by decide +kernel
theorem dX10_copiesAll_26 : decode cX10_copiesAll 26 = .ok (.getfield 51, 3) := by decide +kernel
theorem dX10_copiesAll_29 : decode cX10_copiesAll 29 = .ok (.iload_n 1, 1) := by decide +kernel
theorem dX10_copiesAll_30 : decode cX10_copiesAll 30 = .ok (.aaload, 1) := by decide +kernel
theorem dX10_copiesAll_31 : decode cX10_copiesAll 31 = .ok (.iload_n 3, 1) := by decide +kernel
theorem dX10_copiesAll_32 : decode cX10_copiesAll 32 = .ok (.iaload, 1) := by decide +kernel
theorem dX10_copiesAll_33 : decode cX10_copiesAll 33 = .ok (.iadd, 1) := by decide +kernel
theorem dX10_copiesAll_34 : decode cX10_copiesAll 34 = .ok (.istore_n 3, 1) := by decide +kernel
theorem dX10_copiesAll_35 : decode cX10_copiesAll 35 = .ok (.goto (-28), 3) := by decide +kernel
theorem dX10_copiesAll_38 : decode cX10_copiesAll 38 = .ok (.return_, 1) := by decide +kernel
/-- a tree's places from n on, and how many it has -/
def PG (t n x y : Nat) : Prop := ((x = 507 + t ∨ x = 578 + t ∨ x = 649 + t) ∧ n ≤ y) ∨ (x = 719 ∧ y = t)
theorem PG_PT {t n x y : Nat} (h : PG t n x y) : PT t x y := by unfold PG at h; unfold PT; omega
/-- so many places of one tree stand in another one -/
def cpy (μ u : va_M) (f i t n m : Nat) : Prop := ∀ d : Nat, d < m → u (507 + t) (n + d) = μ (507 + f) (i + d) ∧ u (578 + t) (n + d) = μ (578 + f) (i + d) ∧ u (649 + t) (n + d) = μ (649 + f) (i + d)
set_option maxHeartbeats 4000000 in
set_option maxRecDepth 100000 in
theorem LX10_copies_9 {p : Program} {l : Launch} {e : Env} {R : Room} {s : State} {m : MethodId} {args : Array Value} {below : List Frame} {meth : Method} {c : Code} {cells slots : Nat} {Q : State → Prop} {dC : Nat → ClassId} {dI : Nat → Nat → Nat} {h0 : Nat} {cI cZ cII cIII : ClassId} (hx : p.tables.exec = Jvm.exec) (hb : c.code = cX10_copies) (hml : c.maxLocals = 6) (hown : s.vm.findClass RX10 = some m.cls) (hts : ∀ w ∈ wsG, w.before args s = true) (hK : va_K (dC, dI) vwCl (mT cI cZ cII cIII) s) (hRf : 2 ≤ R.frames) (hRl : 38 ≤ R.locals) (hRc : cells ≤ R.cells) (hRs : slots ≤ R.slots) (μ0 : va_M) (f : Int) (i : Int) (t : Int) (q : Int) (n : Int) (hf : 0 ≤ f ∧ f < 70) (ht : 0 ≤ t ∧ t < 70) (hne : f ≠ t) (hi : 0 ≤ i ∧ 1 ≤ q ∧ i + q ≤ 900) (hn : 0 ≤ n ∧ n + q ≤ 900) (hs : μ0 (649 + f.toNat) i.toNat = q) (hexit73 : ∀ (k : Int) (μ : va_M) (H : Heap) (locs : List Loc) (ls : Array Slot), (fr (PG t.toNat n.toNat) μ0 μ) → (μ 719 t.toNat = n + q) → (cpy μ0 μ f.toNat i.toNat t.toNat n.toNat q.toNat) → va_P (dC, dI) vwCl (fw (mE cI cZ cII cIII h0) h0 6325 μ) H → va_S (fA h0 6325 s.heap.size) s.heap H locs → lv_has ls 6 [] → W p l e R s m args below meth c H locs cells slots Q (F0 m 73 ls [])) :
    ∀ (n9 : Nat) (k : Int) (μ : va_M) (H : Heap) (locs : List Loc) (ls : Array Slot), (i ≤ k ∧ k ≤ i + q) → (fr (PG t.toNat n.toNat) μ0 μ) → (μ 719 t.toNat = n + (k - i)) → (cpy μ0 μ f.toNat i.toNat t.toNat n.toNat (k - i).toNat) → (i + q - k).toNat < n9 → va_P (dC, dI) vwCl (fw (mE cI cZ cII cIII h0) h0 6325 μ) H → va_S (fA h0 6325 s.heap.size) s.heap H locs → lv_has ls 6 [(4, .int (iZ (k))), (0, .ref h0), (1, .int (iZ (f))), (2, .int (iZ (i))), (3, .int (iZ (t)))] → W p l e R s m args below meth c H locs cells slots Q (F0 m 9 ls []) := by
  intro n9
  induction n9 with
  | zero => intro k μ H locs ls hk hfr hN hc hm9 hP hS hl; exact absurd hm9 (Nat.not_lt_zero _)
  | succ n9 ih =>
    intro k μ H locs ls hk hfr hN hc hm9 hP hS hl
    refine lv_iload hx hb dX10_copies_9 (lv_at hl 0 rfl) ?_
    refine lv_iload_n hx hb dX10_copies_11 rfl (lv_at hl 3 rfl) ?_
    refine lv_aload_n hx hb dX10_copies_12 rfl (lv_at hl 1 rfl) ?_
    refine fz_get (D := (dC, dI)) (ci := 10) (v := .ref (h0 + 648)) (C := RX10) (T := TX10) (N := 53) hx hb hts inG10 hown hK hP (k := 0) (by decide) (F := mF h0) mE_obj rfl 20 (by decide) (hts _ k1186) (fun _ h9 => h9) rfl dX10_copies_13 ?_
    refine lv_iload_n hx hb dX10_copies_16 rfl (lv_at hl 2 rfl) ?_
    refine fz_ald (k := 648) (n := 70) (k2 := (649 + (f).toNat)) hx hb hK hP 2 rfl (by decide) mE_span rfl ⟨by omega, by omega⟩ (by decide) (if_pos (by omega)) dX10_copies_17 ?_
    refine lv_iload_n hx hb dX10_copies_18 rfl (lv_at hl 3 rfl) ?_
    refine fz_ld (k := (649 + (f).toNat)) (n := 900) hx hb hK hP 0 (by omega) (mE_spanR (by omega)) rfl ⟨by omega, by omega⟩ (by decide) dX10_copies_19 ?_
    rw [show μ (649 + (f).toNat) (i).toNat = q from (by rw [hfr _ _ (by unfold PG; omega)]; exact hs)]
    refine lv_iadd hx hb dX10_copies_20 ?_
    refine lv_topi (fun x9 ex9 => ?_)
    obtain rfl : x9 = iZ (i + q) := ex9.trans (iZ_add _ _)
    refine fz_icmp_ge (tgt := 73) (by constructor <;> omega) (by constructor <;> omega) hx hb dX10_copies_21 (by decide) (fun c21_ => ?_) (fun c21_ => ?_)
    · exact hexit73 (k) μ H locs ls (by exact hfr) (by omega) (by
                    obtain rfl : k = i + q := by omega
                    rw [show i + q - i = q by omega] at hc
                    exact hc) hP hS (lv_sub hl [] rfl)
    · refine lv_aload_n hx hb dX10_copies_24 rfl (lv_at hl 1 rfl) ?_
      refine lv_iload_n hx hb dX10_copies_25 rfl (lv_at hl 4 rfl) ?_
      refine lv_aload_n hx hb dX10_copies_26 rfl (lv_at hl 1 rfl) ?_
      refine fz_get (D := (dC, dI)) (ci := 10) (v := .ref (h0 + 506)) (C := RX10) (T := TX10) (N := 53) hx hb hts inG10 hown hK hP (k := 0) (by decide) (F := mF h0) mE_obj rfl 18 (by decide) (hts _ k1184) (fun _ h9 => h9) rfl dX10_copies_27 ?_
      refine lv_iload_n hx hb dX10_copies_30 rfl (lv_at hl 2 rfl) ?_
      refine fz_ald (k := 506) (n := 70) (k2 := (507 + (f).toNat)) hx hb hK hP 2 rfl (by decide) mE_sort rfl ⟨by omega, by omega⟩ (by decide) (if_pos (by omega)) dX10_copies_31 ?_
      refine lv_iload hx hb dX10_copies_32 (lv_at hl 0 rfl) ?_
      refine fz_ld (k := (507 + (f).toNat)) (n := 900) hx hb hK hP 0 (by omega) (mE_sortR (by omega)) rfl ⟨by omega, by omega⟩ (by decide) dX10_copies_34 ?_
      refine lv_aload_n hx hb dX10_copies_35 rfl (lv_at hl 1 rfl) ?_
      refine fz_get (D := (dC, dI)) (ci := 10) (v := .ref (h0 + 577)) (C := RX10) (T := TX10) (N := 53) hx hb hts inG10 hown hK hP (k := 0) (by decide) (F := mF h0) mE_obj rfl 19 (by decide) (hts _ k1185) (fun _ h9 => h9) rfl dX10_copies_36 ?_
      refine lv_iload_n hx hb dX10_copies_39 rfl (lv_at hl 2 rfl) ?_
      refine fz_ald (k := 577) (n := 70) (k2 := (578 + (f).toNat)) hx hb hK hP 2 rfl (by decide) mE_token rfl ⟨by omega, by omega⟩ (by decide) (if_pos (by omega)) dX10_copies_40 ?_
      refine lv_iload hx hb dX10_copies_41 (lv_at hl 0 rfl) ?_
      refine fz_ld (k := (578 + (f).toNat)) (n := 900) hx hb hK hP 0 (by omega) (mE_tokenR (by omega)) rfl ⟨by omega, by omega⟩ (by decide) dX10_copies_43 ?_
      refine va_calli (va_runV (As := [.int (iZ (t)), .int (iZ (μ (507 + (f).toNat) (k).toNat)), .int (iZ (μ (578 + (f).toNat) (k).toNat))]) (rest := []) ⟨hx, hb, hml, hown, hts⟩ (m_adds l dC dI cI cZ cII cIII h0 H.size μ (t) (μ (507 + (f).toNat) (k).toNat) (μ (578 + (f).toNat) (k).toNat) (by first | assumption | omega | exact ⟨by omega, by omega⟩) (by first | assumption | omega | exact ⟨by omega, by omega⟩)) (cwV 3 hts (gV_G k1381 k1383 ks_yX10_adds k13 k1384) rfl rfl rfl (by decide +kernel) ⟨by show 1 + 1 ≤ _; omega, by show 8 + (5 + 11) + (14) ≤ _; omega⟩) ⟨fun a U g mk q => by obtain ⟨q0, q1, qP, qK⟩ := q; exact ⟨q0, q1, qP, va_K.moved (u := U) (U := U.calling g mk a) (Vm.Alike.refl U.vm) qK⟩, va_recv hK hP (ci := 10) (q0 := 0) rfl ((fw_get (by decide)).trans (by rw [mE_obj]; rfl)), fun U hU hW => ⟨rfl, by rw [hU], by rw [hU]; exact hP, va_K.moved hW.alike hK⟩⟩ rfl rfl hl.1 rfl (lv_room (Nat.le_of_ble_eq_true rfl)) dX10_copies_44 ⟨hRc, hRs⟩) hS (fun q _ h => fA_le hS.1 q h) (fA_le hS.1) (fun r9 u9 t9 H1 locs ht9 hvm9 hw9 hB9 hz9 hk9 hS => ?_)
      obtain ⟨μ1, r2⟩ := u9
      obtain ⟨hP, -⟩ := hB9
      rw [ht9] at hP
      generalize H1 = H at hP hS ⊢
      obtain ⟨e9, hw9⟩ := hw9
      have e9 : r9 = iZ r2 := e9
      subst e9
      simp only at hP hw9
      have hμ1 := hw9; clear hw9
      obtain ⟨hu9, hr9⟩ := hμ1.2 (by omega)
      refine lv_istore (lv' := [(5, .int (iZ (r2))), (4, .int (iZ (k))), (0, .ref h0), (1, .int (iZ (f))), (2, .int (iZ (i))), (3, .int (iZ (t)))]) hx hb dX10_copies_47 hl (by decide) rfl (fun ls hl => ?_)
      refine lv_aload_n hx hb dX10_copies_49 rfl (lv_at hl 2 rfl) ?_
      refine fz_get (D := (dC, dI)) (ci := 10) (v := .ref (h0 + 648)) (C := RX10) (T := TX10) (N := 53) hx hb hts inG10 hown hK hP (k := 0) (by decide) (F := mF h0) mE_obj rfl 20 (by decide) (hts _ k1186) (fun _ h9 => h9) rfl dX10_copies_50 ?_
      refine lv_iload_n hx hb dX10_copies_53 rfl (lv_at hl 5 rfl) ?_
      refine fz_ald (k := 648) (n := 70) (k2 := (649 + (t).toNat)) hx hb hK hP 2 rfl (by decide) mE_span rfl ⟨by omega, by omega⟩ (by decide) (if_pos (by omega)) dX10_copies_54 ?_
      refine lv_iload hx hb dX10_copies_55 (lv_at hl 0 rfl) ?_
      refine lv_aload_n hx hb dX10_copies_57 rfl (lv_at hl 2 rfl) ?_
      refine fz_get (D := (dC, dI)) (ci := 10) (v := .ref (h0 + 648)) (C := RX10) (T := TX10) (N := 53) hx hb hts inG10 hown hK hP (k := 0) (by decide) (F := mF h0) mE_obj rfl 20 (by decide) (hts _ k1186) (fun _ h9 => h9) rfl dX10_copies_58 ?_
      refine lv_iload_n hx hb dX10_copies_61 rfl (lv_at hl 3 rfl) ?_
      refine fz_ald (k := 648) (n := 70) (k2 := (649 + (f).toNat)) hx hb hK hP 2 rfl (by decide) mE_span rfl ⟨by omega, by omega⟩ (by decide) (if_pos (by omega)) dX10_copies_62 ?_
      refine lv_iload hx hb dX10_copies_63 (lv_at hl 1 rfl) ?_
      refine fz_ld (k := (649 + (f).toNat)) (n := 900) hx hb hK hP 0 (by omega) (mE_spanR (by omega)) rfl ⟨by omega, by omega⟩ (by decide) dX10_copies_65 ?_
      refine fz_st (k := (649 + (t).toNat)) (n := 900) (i := r2) (z := (μ1 (649 + (f).toNat) (k).toNat)) hx hb hK hP fA_in hS 0 (by omega) (mE_spanR (by omega)) rfl ⟨by omega, by omega⟩ (by decide) dX10_copies_66 (fun H locs hP hS => ?_)
      obtain ⟨μ3, eμ3⟩ : ∃ x : va_M, x = uz μ1 (649 + (t).toNat) (r2).toNat (μ1 (649 + (f).toNat) (k).toNat) := ⟨_, rfl⟩
      rw [← eμ3] at hP
      refine lv_iinc (v := iZ (k + 1)) (lv' := [(4, .int (iZ (k + 1))), (5, .int (iZ (r2))), (0, .ref h0), (1, .int (iZ (f))), (2, .int (iZ (i))), (3, .int (iZ (t)))]) hx hb dX10_copies_67 hl (k := 1) rfl (iZ_add _ _) (by decide) rfl (fun ls hl => ?_)
      refine lv_goto (tgt := 9) hx hb dX10_copies_70 (by decide) ?_
      exact ih (k + 1) μ3 H locs ls (by omega) (by
                    subst eμ3
                    rw [hu9]
                    exact fr_uz (fr_uz (fr_uz (fr_uz (fr_uz hfr (by unfold PG; omega)) (by unfold PG; omega)) (by unfold PG; omega)) (by unfold PG; omega)) (by unfold PG; omega)) (by
                    rw [eμ3, uz_n (by omega), hu9, uz_s]
                    omega) (by
                    intro d hd
                    by_cases h9 : (d : Int) < k - i
                    · have h8 := hc d (by omega)
                      refine ⟨?_, ?_, ?_⟩
                      · rw [eμ3, uz_n (by omega), hu9, uz_n (by omega), uz_n (by omega), uz_n (by omega), uz_n (by omega)]; exact h8.1
                      · rw [eμ3, uz_n (by omega), hu9, uz_n (by omega), uz_n (by omega), uz_n (by omega), uz_n (by omega)]; exact h8.2.1
                      · rw [eμ3, uz_n (by omega), hu9, uz_n (by omega), uz_n (by omega), uz_n (by omega), uz_n (by omega)]; exact h8.2.2
                    · have e1 : n.toNat + d = (μ 719 t.toNat).toNat := by omega
                      have e2 : i.toNat + d = k.toNat := by omega
                      rw [e1, e2, eμ3, hr9]
                      refine ⟨?_, ?_, ?_⟩
                      · rw [uz_n (by omega), hu9, uz_n (by omega), uz_n (by omega), uz_n (by omega), uz_s]; exact hfr _ _ (by unfold PG; omega)
                      · rw [uz_n (by omega), hu9, uz_n (by omega), uz_n (by omega), uz_s]; exact hfr _ _ (by unfold PG; omega)
                      · rw [uz_s, hu9, uz_n (by omega), uz_n (by omega), uz_n (by omega), uz_n (by omega)]; exact hfr _ _ (by unfold PG; omega)) (by omega) hP hS (lv_sub hl [0, 2, 3, 4, 5] rfl)
set_option maxHeartbeats 4000000 in
set_option maxRecDepth 100000 in
theorem m_copies (l : Launch) (dC : Nat → ClassId) (dI : Nat → Nat → Nat) (cI cZ cII cIII : ClassId) (h0 sz : Nat) (μ : va_M) (f : Int) (i : Int) (t : Int) (q : Int) (hf : 0 ≤ f ∧ f < 70) (ht : -1 ≤ t ∧ t < 70) (hne : f ≠ t) (hi : 0 ≤ t → 0 ≤ i ∧ 1 ≤ q ∧ i + q ≤ 900) (hn : 0 ≤ t → 0 ≤ μ 719 t.toNat ∧ μ 719 t.toNat + q ≤ 900) (hs : 0 ≤ t → μ (649 + f.toNat) i.toNat = q) : Met l yX10_copies (Cond.code yX10_copies cX10_copies 6 none :: wsG) ({ frames := 2, cells := 0, slots := 0, locals := 38 } : Room) (va_Pc [.ref h0, .int (iZ (f)), .int (iZ (i)), .int (iZ (t))] (fun U => U.heap.size = sz ∧ va_P (dC, dI) vwCl (fw (mE cI cZ cII cIII h0) h0 6325 μ) U.heap ∧ va_K (dC, dI) vwCl (mT cI cZ cII cIII) U)) (va_Qv (fun (u : va_M) => (t = -1 → u = μ) ∧ (0 ≤ t → fr (PG t.toNat (μ 719 t.toNat).toNat) μ u ∧ u 719 t.toNat = μ 719 t.toNat + q ∧ cpy μ u f.toNat i.toNat t.toNat (μ 719 t.toNat).toNat q.toNat)) (fun u t => va_P (dC, dI) vwCl (fw (mE cI cZ cII cIII h0) h0 6325 u) t.heap ∧ va_K (dC, dI) vwCl (mT cI cZ cII cIII) t) (fA h0 6325 sz)) 0 0 (fA h0 6325 sz) := by
  refine Met.ofW (cc := cX10_copies) (maxL := 6) (ret := none) (by decide) rfl ?_
  intro p e s m args below meth c s₁ B hml hv
  obtain ⟨rfl, hsz, hP, hK⟩ := hv
  have hx := B.exec
  have hb := B.bytes
  have hr := B.returns
  have hts : ∀ w ∈ wsG, w.before _ s = true := hG_of (atoms_spec (ws := (Cond.code yX10_copies cX10_copies 6 none :: wsG)) B.pre)
  have hown : s.vm.findClass RX10 = some m.cls := findClass_of_methodNamed B.named
  have hlocks := B.notSynchronized
  subst hsz
  have hS : va_S (fA h0 6325 s.heap.size) s.heap s.heap [] := va_S.rf
  have hl := lv_entry ([.ref h0, .int (iZ (f)), .int (iZ (i)), .int (iZ (t))]) (n := 6) (Nat.le_of_ble_eq_true rfl)
  rw [lg_entry_eq]
  generalize (lg_sl ([.ref h0, .int (iZ (f)), .int (iZ (i)), .int (iZ (t))]) ++ List.replicate (6 - (lg_sl ([.ref h0, .int (iZ (f)), .int (iZ (i)), .int (iZ (t))])).length) Slot.unset).toArray = ls at hl ⊢
  have hl : lv_has ls 6 [(0, .ref h0), (1, .int (iZ (f))), (2, .int (iZ (i))), (3, .int (iZ (t)))] := hl
  refine lv_iload_n hx hb dX10_copies_0 rfl (lv_at hl 3 rfl) ?_
  refine lv_iconst (v := iZ (-1)) hx hb dX10_copies_1 rfl ?_
  refine fz_icmp_ne (tgt := 6) (by constructor <;> omega) (by decide) hx hb dX10_copies_2 (by decide) (fun c2_ => ?_) (fun c2_ => ?_)
  · refine lv_iload_n hx hb dX10_copies_6 rfl (lv_at hl 2 rfl) ?_
    refine lv_istore (lv' := [(4, .int (iZ (i))), (0, .ref h0), (1, .int (iZ (f))), (2, .int (iZ (i))), (3, .int (iZ (t)))]) hx hb dX10_copies_7 hl (by decide) rfl (fun ls hl => ?_)
    refine LX10_copies_9 hx hb hml hown hts hK (Nat.le_of_ble_eq_true rfl) (Nat.le_of_ble_eq_true rfl) (Nat.le_of_ble_eq_true rfl) (Nat.le_of_ble_eq_true rfl) (μ) (f) (i) (t) (q) (μ 719 t.toNat) (by assumption) (by omega) (by assumption) (by exact hi (by omega)) (by exact hn (by omega)) (by exact hs (by omega)) ?_ _ (i) μ s.heap [] ls (by
                have h9 := hi (by omega)
                omega) (by exact fr_rfl) (by omega) (by intro d hd; omega) (Nat.lt_succ_self _) hP hS (lv_sub hl [0, 1, 2, 3, 4] rfl)
    · intro k_4 μ4_ H locs ls q1_4 q2_4 q3_4 hP hS hl
      have hl : lv_has ls 6 [] := hl
      exact W.vret hx hb hr (fun t9 ht9 hW9 => ⟨⟨μ4_, rfl, (by
                    try dsimp only
                    exact ⟨fun h => absurd h (by omega), fun _ => ⟨q1_4, q2_4, q3_4⟩⟩), by rw [ht9]; exact hP, va_K.moved hW9.alike hK⟩, hS.F ht9⟩) hS.2.2 dX10_copies_73
  · exact W.vret hx hb hr (fun t9 ht9 hW9 => ⟨⟨μ, rfl, (by
                try dsimp only
                exact ⟨fun _ => rfl, fun h => absurd h (by omega)⟩), by rw [ht9]; exact hP, va_K.moved hW9.alike hK⟩, hS.F ht9⟩) hS.2.2 dX10_copies_5
set_option maxHeartbeats 4000000 in
set_option maxRecDepth 100000 in
theorem LX10_copiesAll_7 {p : Program} {l : Launch} {e : Env} {R : Room} {s : State} {m : MethodId} {args : Array Value} {below : List Frame} {meth : Method} {c : Code} {cells slots : Nat} {Q : State → Prop} {dC : Nat → ClassId} {dI : Nat → Nat → Nat} {h0 : Nat} {cI cZ cII cIII : ClassId} (hx : p.tables.exec = Jvm.exec) (hb : c.code = cX10_copiesAll) (hml : c.maxLocals = 4) (hown : s.vm.findClass RX10 = some m.cls) (hts : ∀ w ∈ wsG, w.before args s = true) (hK : va_K (dC, dI) vwCl (mT cI cZ cII cIII) s) (hRf : 3 ≤ R.frames) (hRl : 63 ≤ R.locals) (hRc : cells ≤ R.cells) (hRs : slots ≤ R.slots) (μ0 : va_M) (f : Int) (t : Int) (N : Int) (hf : 0 ≤ f ∧ f < 70) (ht : 0 ≤ t ∧ t < 70) (hne : f ≠ t) (hN0 : μ0 719 f.toNat = N) (hN9 : N ≤ 900) (hexit38 : ∀ (k : Int) (w : Rw) (μ : va_M) (H : Heap) (locs : List Loc) (ls : Array Slot), (fr (PT t.toNat) μ0 μ) → (μ 719 t.toNat = N) → (cpy μ0 μ f.toNat 0 t.toNat 0 N.toNat) → va_P (dC, dI) vwCl (fw (mE cI cZ cII cIII h0) h0 6325 μ) H → va_S (fA h0 6325 s.heap.size) s.heap H locs → lv_has ls 4 [] → W p l e R s m args below meth c H locs cells slots Q (F0 m 38 ls [])) :
    ∀ (n9 : Nat) (k : Int) (w : Rw) (μ : va_M) (H : Heap) (locs : List Loc) (ls : Array Slot), (RA μ0 f.toNat w k.toNat) → (0 ≤ k ∧ k + rN w = N) → (fr (PT t.toNat) μ0 μ) → (μ 719 t.toNat = k) → (cpy μ0 μ f.toNat 0 t.toNat 0 k.toNat) → rN w < n9 → va_P (dC, dI) vwCl (fw (mE cI cZ cII cIII h0) h0 6325 μ) H → va_S (fA h0 6325 s.heap.size) s.heap H locs → lv_has ls 4 [(3, .int (iZ (k))), (0, .ref h0), (1, .int (iZ (f))), (2, .int (iZ (t)))] → W p l e R s m args below meth c H locs cells slots Q (F0 m 7 ls []) := by
  intro n9
  induction n9 with
  | zero => intro k w μ H locs ls hw hk hfr hN hc hm9 hP hS hl; exact absurd hm9 (Nat.not_lt_zero _)
  | succ n9 ih =>
    intro k w μ H locs ls hw hk hfr hN hc hm9 hP hS hl
    refine lv_iload_n hx hb dX10_copiesAll_7 rfl (lv_at hl 0 rfl) ?_
    refine lv_aload_n hx hb dX10_copiesAll_8 rfl (lv_at hl 1 rfl) ?_
    refine fz_get (D := (dC, dI)) (ci := 10) (v := .ref (h0 + 719)) (C := RX10) (T := TX10) (N := 53) hx hb hts inG10 hown hK hP (k := 0) (by decide) (F := mF h0) mE_obj rfl 21 (by decide) (hts _ k1187) (fun _ h9 => h9) rfl dX10_copiesAll_9 ?_
    refine lv_iload_n hx hb dX10_copiesAll_12 rfl (lv_at hl 2 rfl) ?_
    refine fz_ld (k := 719) (n := 70) hx hb hK hP 0 (by decide) mE_nodes rfl ⟨by omega, by omega⟩ (by decide) dX10_copiesAll_13 ?_
    rw [show μ 719 (f).toNat = N from (by rw [hfr _ _ (by unfold PT; omega)]; exact hN0)]
    refine fz_icmp_ge (tgt := 38) (by constructor <;> omega) (by constructor <;> omega) hx hb dX10_copiesAll_14 (by decide) (fun c14_ => ?_) (fun c14_ => ?_)
    · exact hexit38 (k) (w) μ H locs ls (by exact hfr) (by omega) (by
                    obtain rfl : k = N := by omega
                    exact hc) hP hS (lv_sub hl [] rfl)
    · obtain ⟨z9, k9, v9, l9, w9, rfl⟩ := rw_ne (w := w) (by omega)
      obtain ⟨g1, g2, g3, g4, g5⟩ := hw
      have hn9 := rN_in (z := z9) (k := k9) (v := v9) (l := l9) (r := w9)
      have hi9 := rI_in (z := z9) (k := k9) (v := v9) (l := l9) (r := w9)
      have g6 : μ (649 + f.toNat) k.toNat = 1 + rN l9 := by rw [hfr _ _ (by unfold PT; omega)]; exact g3
      refine lv_aload_n hx hb dX10_copiesAll_17 rfl (lv_at hl 1 rfl) ?_
      refine lv_iload_n hx hb dX10_copiesAll_18 rfl (lv_at hl 2 rfl) ?_
      refine lv_iload_n hx hb dX10_copiesAll_19 rfl (lv_at hl 0 rfl) ?_
      refine lv_iload_n hx hb dX10_copiesAll_20 rfl (lv_at hl 3 rfl) ?_
      refine va_callv (va_runV (As := [.int (iZ (f)), .int (iZ (k)), .int (iZ (t))]) (rest := []) ⟨hx, hb, hml, hown, hts⟩ (m_copies l dC dI cI cZ cII cIII h0 H.size μ (f) (k) (t) (1 + (rN l9 : Int)) (by first | assumption | omega | exact ⟨by omega, by omega⟩) (by first | assumption | omega | exact ⟨by omega, by omega⟩) (by first | assumption | omega | exact ⟨by omega, by omega⟩) (by first | assumption | omega | exact ⟨by omega, by omega⟩) (by first | assumption | omega | exact ⟨by omega, by omega⟩) (by intro _; exact g6)) (cwV 3 hts (gV_G k1416 k1418 ks_yX10_copies k13 k1419) rfl rfl rfl (by decide +kernel) ⟨by show 2 + 1 ≤ _; omega, by show 8 + (6 + 11) + (38) ≤ _; omega⟩) ⟨fun a U g mk q => by obtain ⟨q0, q1, qP, qK⟩ := q; exact ⟨q0, q1, qP, va_K.moved (u := U) (U := U.calling g mk a) (Vm.Alike.refl U.vm) qK⟩, va_recv hK hP (ci := 10) (q0 := 0) rfl ((fw_get (by decide)).trans (by rw [mE_obj]; rfl)), fun U hU hW => ⟨rfl, by rw [hU], by rw [hU]; exact hP, va_K.moved hW.alike hK⟩⟩ rfl rfl hl.1 rfl (lv_room (Nat.le_of_ble_eq_true rfl)) dX10_copiesAll_21 ⟨hRc, hRs⟩) hS (fun q _ h => fA_le hS.1 q h) (fA_le hS.1) (fun u9 t9 H1 locs ht9 hvm9 hw9 hB9 hz9 hk9 hS => ?_)
      obtain ⟨hP, -⟩ := hB9
      rw [ht9] at hP
      generalize H1 = H at hP hS ⊢
      obtain ⟨μ1, eμ1⟩ : ∃ x : va_M, x = u9 := ⟨_, rfl⟩
      rw [← eμ1] at hP hw9
      have hμ1 := hw9; clear hw9
      obtain ⟨c1, c2, c3⟩ := hμ1.2 (by omega)
      rw [hN] at c1 c2 c3
      have c4 := fr_mono c1 (fun _ _ h => PG_PT h)
      refine lv_iload_n hx hb dX10_copiesAll_24 rfl (lv_at hl 0 rfl) ?_
      refine lv_aload_n hx hb dX10_copiesAll_25 rfl (lv_at hl 1 rfl) ?_
      refine fz_get (D := (dC, dI)) (ci := 10) (v := .ref (h0 + 648)) (C := RX10) (T := TX10) (N := 53) hx hb hts inG10 hown hK hP (k := 0) (by decide) (F := mF h0) mE_obj rfl 20 (by decide) (hts _ k1186) (fun _ h9 => h9) rfl dX10_copiesAll_26 ?_
      refine lv_iload_n hx hb dX10_copiesAll_29 rfl (lv_at hl 2 rfl) ?_
      refine fz_ald (k := 648) (n := 70) (k2 := (649 + (f).toNat)) hx hb hK hP 2 rfl (by decide) mE_span rfl ⟨by omega, by omega⟩ (by decide) (if_pos (by omega)) dX10_copiesAll_30 ?_
      refine lv_iload_n hx hb dX10_copiesAll_31 rfl (lv_at hl 0 rfl) ?_
      refine fz_ld (k := (649 + (f).toNat)) (n := 900) hx hb hK hP 0 (by omega) (mE_spanR (by omega)) rfl ⟨by omega, by omega⟩ (by decide) dX10_copiesAll_32 ?_
      rw [show μ1 (649 + (f).toNat) (k).toNat = 1 + (rN l9 : Int) from (by rw [c4 _ _ (by unfold PT; omega)]; exact g6)]
      refine lv_iadd hx hb dX10_copiesAll_33 ?_
      refine lv_topi (fun x9 ex9 => ?_)
      obtain rfl : x9 = iZ (k + (1 + (rN l9 : Int))) := ex9.trans (iZ_add _ _)
      refine lv_istore_n (lv' := [(3, .int (iZ (k + (1 + (rN l9 : Int))))), (0, .ref h0), (1, .int (iZ (f))), (2, .int (iZ (t)))]) hx hb dX10_copiesAll_34 rfl hl (by decide) rfl (fun ls hl => ?_)
      refine lv_goto (tgt := 7) hx hb dX10_copiesAll_35 (by decide) ?_
      exact ih (k + (1 + (rN l9 : Int))) (w9) μ1 H locs ls (by rw [show (k + (1 + (rN l9 : Int))).toNat = k.toNat + 1 + rN l9 by omega]; exact g5) (by omega) (by exact fr_trans hfr c4) (by omega) (by
                    intro d hd
                    by_cases h9 : d < k.toNat
                    · have h8 := hc d h9
                      have e1 : ¬ PG t.toNat k.toNat (507 + t.toNat) (0 + d) := by unfold PG; omega
                      have e2 : ¬ PG t.toNat k.toNat (578 + t.toNat) (0 + d) := by unfold PG; omega
                      have e3 : ¬ PG t.toNat k.toNat (649 + t.toNat) (0 + d) := by unfold PG; omega
                      rw [c1 _ _ e1, c1 _ _ e2, c1 _ _ e3]
                      exact h8
                    · obtain ⟨x, rfl⟩ : ∃ x, d = k.toNat + x := ⟨d - k.toNat, by omega⟩
                      have h8 := c3 x (by omega)
                      rw [Nat.zero_add, h8.1, h8.2.1, h8.2.2, hfr _ _ (by unfold PT; omega), hfr _ _ (by unfold PT; omega), hfr _ _ (by unfold PT; omega)]
                      exact ⟨rfl, rfl, rfl⟩) (by omega) hP hS (lv_sub hl [0, 1, 2, 3] rfl)
set_option maxHeartbeats 4000000 in
set_option maxRecDepth 100000 in
theorem m_copiesAll (l : Launch) (dC : Nat → ClassId) (dI : Nat → Nat → Nat) (cI cZ cII cIII : ClassId) (h0 sz : Nat) (μ : va_M) (f : Int) (t : Int) (w : Rw) (hf : 0 ≤ f ∧ f < 70) (ht : 0 ≤ t ∧ t < 70) (hne : f ≠ t) (hR : TR μ f.toNat w) (hN9 : rN w ≤ 900) : Met l yX10_copiesAll (Cond.code yX10_copiesAll cX10_copiesAll 4 none :: wsG) ({ frames := 3, cells := 0, slots := 0, locals := 63 } : Room) (va_Pc [.ref h0, .int (iZ (f)), .int (iZ (t))] (fun U => U.heap.size = sz ∧ va_P (dC, dI) vwCl (fw (mE cI cZ cII cIII h0) h0 6325 μ) U.heap ∧ va_K (dC, dI) vwCl (mT cI cZ cII cIII) U)) (va_Qv (fun (u : va_M) => TR u t.toNat w ∧ fr (PT t.toNat) μ u) (fun u t => va_P (dC, dI) vwCl (fw (mE cI cZ cII cIII h0) h0 6325 u) t.heap ∧ va_K (dC, dI) vwCl (mT cI cZ cII cIII) t) (fA h0 6325 sz)) 0 0 (fA h0 6325 sz) := by
  refine Met.ofW (cc := cX10_copiesAll) (maxL := 4) (ret := none) (by decide) rfl ?_
  intro p e s m args below meth c s₁ B hml hv
  obtain ⟨rfl, hsz, hP, hK⟩ := hv
  have hx := B.exec
  have hb := B.bytes
  have hr := B.returns
  have hts : ∀ w ∈ wsG, w.before _ s = true := hG_of (atoms_spec (ws := (Cond.code yX10_copiesAll cX10_copiesAll 4 none :: wsG)) B.pre)
  have hown : s.vm.findClass RX10 = some m.cls := findClass_of_methodNamed B.named
  have hlocks := B.notSynchronized
  subst hsz
  have hS : va_S (fA h0 6325 s.heap.size) s.heap s.heap [] := va_S.rf
  have hl := lv_entry ([.ref h0, .int (iZ (f)), .int (iZ (t))]) (n := 4) (Nat.le_of_ble_eq_true rfl)
  rw [lg_entry_eq]
  generalize (lg_sl ([.ref h0, .int (iZ (f)), .int (iZ (t))]) ++ List.replicate (4 - (lg_sl ([.ref h0, .int (iZ (f)), .int (iZ (t))])).length) Slot.unset).toArray = ls at hl ⊢
  have hl : lv_has ls 4 [(0, .ref h0), (1, .int (iZ (f))), (2, .int (iZ (t)))] := hl
  refine lv_aload_n hx hb dX10_copiesAll_0 rfl (lv_at hl 0 rfl) ?_
  refine lv_iload_n hx hb dX10_copiesAll_1 rfl (lv_at hl 2 rfl) ?_
  refine va_callv (va_runV (As := [.int (iZ (t))]) (rest := []) ⟨hx, hb, hml, hown, hts⟩ (m_empties l dC dI cI cZ cII cIII h0 s.heap.size μ (t) (by first | assumption | omega | exact ⟨by omega, by omega⟩)) (cwV 1 hts (gV_G k1377 k1379 ks_yX10_empties k13 k1380) rfl rfl rfl (by decide +kernel) ⟨Nat.le_of_ble_eq_true rfl, Nat.le_of_ble_eq_true rfl⟩) ⟨fun a U g mk q => by obtain ⟨q0, q1, qP, qK⟩ := q; exact ⟨q0, q1, qP, va_K.moved (u := U) (U := U.calling g mk a) (Vm.Alike.refl U.vm) qK⟩, va_recv hK hP (ci := 10) (q0 := 0) rfl ((fw_get (by decide)).trans (by rw [mE_obj]; rfl)), fun U hU hW => ⟨rfl, by rw [hU], by rw [hU]; exact hP, va_K.moved hW.alike hK⟩⟩ rfl rfl hl.1 rfl (lv_room (Nat.le_of_ble_eq_true rfl)) dX10_copiesAll_2 ⟨Nat.le_of_ble_eq_true rfl, Nat.le_of_ble_eq_true rfl⟩) hS (fun q _ h => fA_le hS.1 q h) (fA_le hS.1) (fun u9 t9 H1 locs ht9 hvm9 hw9 hB9 hz9 hk9 hS => ?_)
  obtain ⟨hP, -⟩ := hB9
  rw [ht9] at hP
  generalize H1 = H at hP hS ⊢
  obtain ⟨μ2, eμ2⟩ : ∃ x : va_M, x = u9 := ⟨_, rfl⟩
  rw [← eμ2] at hP hw9
  have hμ2 := hw9; clear hw9
  refine lv_iconst (v := iZ 0) hx hb dX10_copiesAll_5 rfl ?_
  refine lv_istore_n (lv' := [(3, .int (iZ (0))), (0, .ref h0), (1, .int (iZ (f))), (2, .int (iZ (t)))]) hx hb dX10_copiesAll_6 rfl hl (by decide) rfl (fun ls hl => ?_)
  refine LX10_copiesAll_7 hx hb hml hown hts hK (Nat.le_of_ble_eq_true rfl) (Nat.le_of_ble_eq_true rfl) (Nat.le_of_ble_eq_true rfl) (Nat.le_of_ble_eq_true rfl) (μ2) (f) (t) (rN w) (by assumption) (by assumption) (by assumption) (by rw [hμ2, uz_n (by omega)]; exact hR.1) (by omega) ?_ _ (0) (w) μ2 H locs ls (by exact RA_kept hR.2 (fun x _ _ => by subst hμ2; exact ⟨uz_n (by omega), uz_n (by omega), uz_n (by omega)⟩)) (by omega) (by exact fr_rfl) (by rw [hμ2, uz_s]) (by intro d hd; omega) (Nat.lt_succ_self _) hP hS (lv_sub hl [0, 1, 2, 3] rfl)
  · intro k_3 w_3 μ3_ H locs ls q1_3 q2_3 q3_3 hP hS hl
    have hl : lv_has ls 4 [] := hl
    exact W.vret hx hb hr (fun t9 ht9 hW9 => ⟨⟨μ3_, rfl, (by
                try dsimp only
                have hf2 : fr (PT t.toNat) μ μ3_ := fr_trans (by rw [hμ2]; exact fr_uz fr_rfl (by unfold PT; omega)) q1_3
                refine ⟨⟨q2_3, RA_shift w 0 0 hR.2 (fun d hd => ?_)⟩, hf2⟩
                have h9 := q3_3 d (by omega)
                rw [Nat.zero_add] at *
                rw [h9.1, h9.2.1, h9.2.2, hμ2]
                exact ⟨uz_n (by omega), uz_n (by omega), uz_n (by omega)⟩), by rw [ht9]; exact hP, va_K.moved hW9.alike hK⟩, hS.F ht9⟩) hS.2.2 dX10_copiesAll_38

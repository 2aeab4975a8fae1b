theorem dX10_areNext_0 : decode cX10_areNext 0 = .ok (.aload_n 0, 1) := by decide +kernel
theorem dX10_areNext_1 : decode cX10_areNext 1 = .ok (.iload_n 1, 1) := by decide +kernel
theorem dX10_areNext_2 : decode cX10_areNext 2 = .ok (.iload_n 2, 1) := by decide +kernel
theorem dX10_areNext_3 : decode cX10_areNext 3 = .ok (.invokevirtual 207, 3) := by decide +kernel
theorem dX10_areNext_6 : decode cX10_areNext 6 = .ok (.istore 7, 2) := by decide +kernel
theorem dX10_areNext_8 : decode cX10_areNext 8 = .ok (.iload 5, 2) := by decide +kernel
theorem dX10_areNext_10 : decode cX10_areNext 10 = .ok (.istore 8, 2) := by decide +kernel
theorem dX10_areNext_12 : decode cX10_areNext 12 = .ok (.iload 5, 2) := by decide +kernel
theorem dX10_areNext_14 : decode cX10_areNext 14 = .ok (.iload 7, 2) := by decide +kernel
theorem dX10_areNext_16 : decode cX10_areNext 16 = .ok (.iadd, 1) := by decide +kernel
theorem dX10_areNext_17 : decode cX10_areNext 17 = .ok (.iload 6, 2) := by decide +kernel
theorem dX10_areNext_19 : decode cX10_areNext 19 = .ok (.if_icmp .le 5, 3) := by decide +kernel
theorem dX10_areNext_22 : decode cX10_areNext 22 = .ok (.iconst 0, 1) := by decide +kernel
theorem dX10_areNext_23 : decode cX10_areNext 23 = .ok (.ireturn, 1) := by decide +kernel
theorem dX10_areNext_24 : decode cX10_areNext 24 = .ok (.iload_n 2, 1) := by decide +kernel
theorem dX10_areNext_25 : decode cX10_areNext 25 = .ok (.iconst 1, 1) := by decide +kernel
theorem dX10_areNext_26 : decode cX10_areNext 26 = .ok (.iadd, 1) := by decide +kernel
theorem dX10_areNext_27 : decode cX10_areNext 27 = .ok (.istore 9, 2) := by decide +kernel
theorem dX10_areNext_29 : decode cX10_areNext 29 = .ok (.iload 9, 2) := by decide +kernel
theorem dX10_areNext_31 : decode cX10_areNext 31 = .ok (.iload_n 2, 1) := by decide +kernel
theorem dX10_areNext_32 : decode cX10_areNext 32 = .ok (.aload_n 0, 1) := by decide +kernel
theorem dX10_areNext_33 : decode cX10_areNext 33 = .ok (.getfield 51, 3) := by decide +kernel
theorem dX10_areNext_36 : decode cX10_areNext 36 = .ok (.iload_n 1, 1) := by decide +kernel
theorem dX10_areNext_37 : decode cX10_areNext 37 = .ok (.aaload, 1) := by decide +kernel
theorem dX10_areNext_38 : decode cX10_areNext 38 = .ok (.iload_n 2, 1) := by decide +kernel
theorem dX10_areNext_39 : decode cX10_areNext 39 = .ok (.iaload, 1) := by decide +kernel
theorem dX10_areNext_40 : decode cX10_areNext 40 = .ok (.iadd, 1) := by decide +kernel
theorem dX10_areNext_41 : decode cX10_areNext 41 = .ok (.if_icmp .ge 41, 3) := by decide +kernel
theorem dX10_areNext_44 : decode cX10_areNext 44 = .ok (.aload_n 0, 1) := by decide +kernel
theorem dX10_areNext_45 : decode cX10_areNext 45 = .ok (.iload_n 1, 1) := by decide +kernel
theorem dX10_areNext_46 : decode cX10_areNext 46 = .ok (.iload 9, 2) := by decide +kernel
theorem dX10_areNext_48 : decode cX10_areNext 48 = .ok (.iload_n 3, 1) := by decide +kernel
theorem dX10_areNext_49 : decode cX10_areNext 49 = .ok (.aload 4, 2) := by decide +kernel
theorem dX10_areNext_51 : decode cX10_areNext 51 = .ok (.iload 8, 2) := by decide +kernel
theorem dX10_areNext_53 : decode cX10_areNext 53 = .ok (.iaload, 1) := by decide +kernel
theorem dX10_areNext_54 : decode cX10_areNext 54 = .ok (.invokevirtual 211, 3) := by decide +kernel
theorem dX10_areNext_57 : decode cX10_areNext 57 = .ok (.ifCond .ne 5, 3) := by decide +kernel
theorem dX10_areNext_60 : decode cX10_areNext 60 = .ok (.iconst 0, 1) := by decide +kernel
theorem dX10_areNext_61 : decode cX10_areNext 61 = .ok (.ireturn, 1) := by decide +kernel
theorem dX10_areNext_62 : decode cX10_areNext 62 = .ok (.iinc 8 1, 3) := by decide +kernel
theorem dX10_areNext_65 : decode cX10_areNext 65 = .ok (.iload 9, 2) := by decide +kernel
theorem dX10_areNext_67 : decode cX10_areNext 67 = .ok (.aload_n 0, 1) := by decide +kernel
theorem dX10_areNext_68 : decode cX10_areNext 68 = .ok (.getfield 51, 3) := by decide +kernel
theorem dX10_areNext_71 : decode cX10_areNext 71 = .ok (.iload_n 1, 1) := by decide +kernel
theorem dX10_areNext_72 : decode cX10_areNext 72 = .ok (.aaload, 1) := by decide +kernel
theorem dX10_areNext_73 : decode cX10_areNext 73 = .ok (.iload 9, 2) := by decide +kernel
theorem dX10_areNext_75 : decode cX10_areNext 75 = .ok (.iaload, 1) := by decide +kernel
theorem dX10_areNext_76 : decode cX10_areNext 76 = .ok (.iadd, 1) := by decide +kernel
theorem dX10_areNext_77 : decode cX10_areNext 77 = .ok (.istore 9, 2) := by decide +kernel
theorem dX10_areNext_79 : decode cX10_areNext 79 = .ok (.goto (-50), 3) := by decide +kernel
theorem dX10_areNext_82 : decode cX10_areNext 82 = .ok (.iconst 1, 1) := by decide +kernel
theorem dX10_areNext_83 : decode cX10_areNext 83 = .ok (.ireturn, 1) := by decide +kernel
/-! what is in one item, beside the next items of a row -/
def nxt : Rw → Rw → Prop
  | .leaf, _ => True
  | .inner _ k v l r, .inner _ k2 v2 l2 r2 => ialk k v l k2 v2 l2 ∧ nxt r r2
  | .inner _ _ _ _ _, .leaf => False
theorem nxt_I : ∀ (w b : Rw), nxt w b → rI w ≤ rI b
  | .leaf, _, _ => Nat.zero_le _
  | .inner _ _ _ _ _, .leaf, h => h.elim
  | .inner _ k v l r, .inner _ k2 v2 l2 r2, ⟨_, h⟩ => by
    have := nxt_I r r2 h
    rw [rI_in, rI_in]; omega
/-- only as many are looked at -/
theorem nxt_ralk : ∀ (w b : Rw), nxt w b → ralk w (rpre (rI w) b .leaf) ∧ rfus w b = rfus w (rpre (rI w) b .leaf) ∧ rfC w b = rfC w (rpre (rI w) b .leaf)
  | .leaf, b, _ => by
    have e : rpre (rI (Std.DTreeMap.Internal.Impl.leaf : Rw)) b Std.DTreeMap.Internal.Impl.leaf = Std.DTreeMap.Internal.Impl.leaf := by cases b <;> rfl
    rw [e]
    cases b <;> exact ⟨trivial, rfl, rfl⟩
  | .inner _ _ _ _ _, .leaf, h => h.elim
  | .inner _ k v l r, .inner _ k2 v2 l2 r2, ⟨h1, h2⟩ => by
    obtain ⟨a1, a2, a3⟩ := nxt_ralk r r2 h2
    rw [rI_in, show 1 + rI r = rI r + 1 by omega, rpre]
    exact ⟨⟨h1, a1⟩, by rw [rfus, rfus, a2], by rw [rfC, rfC, a3]⟩
theorem rdrop_S {w r : Rw} {m z k : Nat} {v : Int} {l : Rw} (h : rdrop m w = Std.DTreeMap.Internal.Impl.inner z k v l r) : rdrop (m + 1) w = r := by
  rw [rdrop_add m 1 w, h]
  cases r <;> rfl
set_option maxHeartbeats 4000000 in
set_option maxRecDepth 100000 in
theorem LX10_areNext_29 {p : Program} {l : Launch} {e : Env} {R : Room} {s : State} {m : MethodId} {args : Array Value} {below : List Frame} {meth : Method} {c : Code} {cells slots : Nat} {Q : State → Prop} {dC : Nat → ClassId} {dI : Nat → Nat → Nat} {h0 : Nat} {cI cZ cII cIII : ClassId} (hx : p.tables.exec = Jvm.exec) (hb : c.code = cX10_areNext) (hml : c.maxLocals = 10) (hown : s.vm.findClass RX10 = some m.cls) (hts : ∀ w ∈ wsG, w.before args s = true) (hK : va_K (dC, dI) vwCl (mT cI cZ cII cIII) s) (hRf : 24 ≤ R.frames) (hRl : 740 ≤ R.locals) (hRc : cells ≤ R.cells) (hRs : slots ≤ R.slots) (μ0 : va_M) (t : Int) (i0 : Int) (u1 : Int) (q : Nat) (f9 : Int) (mn : Int) (k : Nat) (v : Int) (w1 : Rw) (wb : Rw) (pb : Int) (so : Int) (ht : 0 ≤ t ∧ t < 70) (hu : 0 ≤ u1 ∧ u1 < 70) (hi : 0 ≤ i0 ∧ i0 + 1 + rN w1 ≤ 900) (h1 : IA μ0 t.toNat i0.toNat k v w1) (hw1 : iWF k v w1) (hq : rowQ q) (hrow : rowIs μ0 q wb pb) (hR : RA μ0 u1.toNat wb pb.toNat) (hpb : 0 ≤ pb ∧ pb + rN wb ≤ 900) (hwb : rWF wb) (h260 : rI wb ≤ 260) (hm9_ : mn = rI wb) (hf9 : 0 ≤ f9 ∧ f9 ≤ rI wb) (hd : rH w1 ≤ 20) (hexit60 : ∀ (i : Int) (j : Int) (w : Rw) (μ : va_M) (H : Heap) (locs : List Loc) (ls : Array Slot), (μ = μ0 ∧ ¬ nxt w1 (rdrop f9.toNat wb)) → va_P (dC, dI) vwCl (fw (mE cI cZ cII cIII h0) h0 6325 μ) H → va_S (fA h0 6325 s.heap.size) s.heap H locs → lv_has ls 10 [] → W p l e R s m args below meth c H locs cells slots Q (F0 m 60 ls [])) (hexit82 : ∀ (i : Int) (j : Int) (w : Rw) (μ : va_M) (H : Heap) (locs : List Loc) (ls : Array Slot), (μ = μ0 ∧ nxt w1 (rdrop f9.toNat wb)) → va_P (dC, dI) vwCl (fw (mE cI cZ cII cIII h0) h0 6325 μ) H → va_S (fA h0 6325 s.heap.size) s.heap H locs → lv_has ls 10 [] → W p l e R s m args below meth c H locs cells slots Q (F0 m 82 ls [])) :
    ∀ (n9 : Nat) (i : Int) (j : Int) (w : Rw) (μ : va_M) (H : Heap) (locs : List Loc) (ls : Array Slot), (μ = μ0) → (RA μ0 t.toNat w i.toNat) → (i + rN w = i0 + 1 + rN w1 ∧ i0 < i) → (f9 ≤ j ∧ j + rI w ≤ rI wb) → (nxt w1 (rdrop f9.toNat wb) ↔ nxt w (rdrop j.toNat wb)) → (rWF w) → (rH w ≤ 20) → rN w < n9 → va_P (dC, dI) vwCl (fw (mE cI cZ cII cIII h0) h0 6325 μ) H → va_S (fA h0 6325 s.heap.size) s.heap H locs → lv_has ls 10 [(9, .int (iZ (i))), (8, .int (iZ (j))), (7, .int (iZ (so))), (6, .int (iZ (mn))), (5, .int (iZ (f9))), (4, .ref (h0 + q)), (3, .int (iZ (u1))), (2, .int (iZ (i0))), (1, .int (iZ (t))), (0, .ref h0)] → W p l e R s m args below meth c H locs cells slots Q (F0 m 29 ls []) := by
  intro n9
  induction n9 with
  | zero => intro i j w μ H locs ls hm hw hii hj hx9 hf hh hm9 hP hS hl; exact absurd hm9 (Nat.not_lt_zero _)
  | succ n9 ih =>
    intro i j w μ H locs ls hm hw hii hj hx9 hf hh hm9 hP hS hl
    subst hm
    refine lv_iload hx hb dX10_areNext_29 (lv_at hl 0 rfl) ?_
    refine lv_iload_n hx hb dX10_areNext_31 rfl (lv_at hl 7 rfl) ?_
    refine lv_aload_n hx hb dX10_areNext_32 rfl (lv_at hl 9 rfl) ?_
    refine fz_get (D := (dC, dI)) (ci := 10) (v := .ref (h0 + 648)) (C := RX10) (T := TX10) (N := 53) hx hb hts inG10 hown hK hP (k := 0) (by decide) (F := mF h0) mE_obj rfl 20 (by decide) (hts _ k1186) (fun _ h9 => h9) rfl dX10_areNext_33 ?_
    refine lv_iload_n hx hb dX10_areNext_36 rfl (lv_at hl 8 rfl) ?_
    refine fz_ald (k := 648) (n := 70) (k2 := (649 + (t).toNat)) hx hb hK hP 2 rfl (by decide) mE_span rfl ⟨by omega, by omega⟩ (by decide) (if_pos (by omega)) dX10_areNext_37 ?_
    refine lv_iload_n hx hb dX10_areNext_38 rfl (lv_at hl 7 rfl) ?_
    refine fz_ld (k := (649 + (t).toNat)) (n := 900) hx hb hK hP 0 (by omega) (mE_spanR (by omega)) rfl ⟨by omega, by omega⟩ (by decide) dX10_areNext_39 ?_
    rw [show μ (649 + (t).toNat) (i0).toNat = 1 + (rN w1 : Int) from (by exact h1.2.2.1)]
    refine lv_iadd hx hb dX10_areNext_40 ?_
    refine lv_topi (fun x9 ex9 => ?_)
    obtain rfl : x9 = iZ (i0 + (1 + (rN w1 : Int))) := ex9.trans (iZ_add _ _)
    refine fz_icmp_ge (tgt := 82) (by constructor <;> omega) (by constructor <;> omega) hx hb dX10_areNext_41 (by decide) (fun c41_ => ?_) (fun c41_ => ?_)
    · exact hexit82 (i) (j) (w) μ H locs ls (by
                    refine ⟨rfl, hx9.mpr ?_⟩
                    cases w with
                    | leaf => trivial
                    | inner z k v l r => exfalso; rw [rN_in] at hii; omega) hP hS (lv_sub hl [] rfl)
    · obtain ⟨z9, k9, v9, l9, w9, hwe⟩ : ∃ (z k : Nat) (v : Int) (l r : Rw), w = Std.DTreeMap.Internal.Impl.inner z k v l r := by
        cases w with
        | leaf =>
          exfalso
          have e0 : rN (Std.DTreeMap.Internal.Impl.leaf : Rw) = 0 := rfl
          omega
        | inner z k v l r => exact ⟨z, k, v, l, r, rfl⟩
      subst hwe
      obtain ⟨g1, g2, g3, g4, g5⟩ := hw
      obtain ⟨f1, f2, f3, f4, f5, f6, f7, f8⟩ := hf
      rw [rN_in] at hii hm9
      rw [rI_in] at hj
      rw [rH_in] at hh
      have d1 := rdrop_I j.toNat wb
      have d2 := rdrop_N j.toNat wb
      obtain ⟨y9, m9, x9_, b9, u9_, hex⟩ := rI_pos (w := rdrop j.toNat wb) (by omega)
      have d3 := RA_drop j.toNat wb _ hR
      rw [hex] at d3
      obtain ⟨p1, p2, p3, p4, p5⟩ := d3
      have d4 := rdrop_WF j.toNat wb hwb
      rw [hex] at d4 d2 d1
      obtain ⟨e1, e2, e3, e4, e5, e6, e7, e8⟩ := d4
      rw [rN_in] at d2
      rw [rI_in] at d1
      have hro := hrow j.toNat (by omega)
      have hpo : (pb + (rO wb j.toNat : Int)).toNat = pb.toNat + rO wb j.toNat := by omega
      have hS9 := rdrop_S hex
      have hqq : (723 ≤ q ∧ q < 737) ∨ (738 ≤ q ∧ q < 752) := hq
      refine lv_aload_n hx hb dX10_areNext_44 rfl (lv_at hl 9 rfl) ?_
      refine lv_iload_n hx hb dX10_areNext_45 rfl (lv_at hl 8 rfl) ?_
      refine lv_iload hx hb dX10_areNext_46 (lv_at hl 0 rfl) ?_
      refine lv_iload_n hx hb dX10_areNext_48 rfl (lv_at hl 6 rfl) ?_
      refine lv_aload hx hb dX10_areNext_49 (lv_at hl 5 rfl) ?_
      refine lv_iload hx hb dX10_areNext_51 (lv_at hl 1 rfl) ?_
      refine fz_ld (k := q) (n := 260) hx hb hK hP 0 (by omega) (mE_rowAny (by omega)) rfl ⟨by omega, by omega⟩ (by decide) dX10_areNext_53 ?_
      rw [show μ q (j).toNat = (pb + (rO wb j.toNat : Int)) from (by exact hro)]
      refine va_calli (va_runV (As := [.int (iZ (t)), .int (iZ (i)), .int (iZ (u1)), .int (iZ ((pb + (rO wb j.toNat : Int))))]) (rest := []) ⟨hx, hb, hml, hown, hts⟩ (m_areAlike l dC dI cI cZ cII cIII h0 (20) H.size μ (t) (i) (u1) ((pb + (rO wb j.toNat : Int))) (k9) (v9) (l9) (m9) (x9_) (b9) (by first | assumption | omega | exact ⟨by omega, by omega⟩) (by first | assumption | omega | exact ⟨by omega, by omega⟩) (by omega) (by omega) (by exact ⟨g1, g2, g3, g4⟩) (by rw [hpo]; exact ⟨p1, p2, p3, p4⟩) (by exact ⟨f1, f2, f3, f4, f5, f6, f7⟩) (by exact ⟨e1, e2, e3, e4, e5, e6, e7⟩) (by omega)) (cwV 4 hts (gV_G k1393 k1395 ks_yX10_areAlike k13 k1396) rfl rfl rfl (by decide +kernel) ⟨by show 23 + 1 ≤ _; omega, by show 8 + (8 + 11) + (700) ≤ _; omega⟩) ⟨fun a U g mk q => by obtain ⟨q0, q1, qP, qK⟩ := q; exact ⟨q0, q1, qP, va_K.moved (u := U) (U := U.calling g mk a) (Vm.Alike.refl U.vm) qK⟩, va_recv hK hP (ci := 10) (q0 := 0) rfl ((fw_get (by decide)).trans (by rw [mE_obj]; rfl)), fun U hU hW => ⟨rfl, by rw [hU], by rw [hU]; exact hP, va_K.moved hW.alike hK⟩⟩ rfl rfl hl.1 rfl (lv_room (Nat.le_of_ble_eq_true rfl)) dX10_areNext_54 ⟨hRc, hRs⟩) hS (fun q _ h => fA_le hS.1 q h) (fA_le hS.1) (fun r9 u9 t9 H1 locs ht9 hvm9 hw9 hB9 hz9 hk9 hS => ?_)
      obtain ⟨μ1, r2⟩ := u9
      obtain ⟨hP, -⟩ := hB9
      rw [ht9] at hP
      generalize H1 = H at hP hS ⊢
      obtain ⟨e9, hw9⟩ := hw9
      have e9 : r9 = iZ r2 := e9
      subst e9
      simp only at hP hw9
      have hμ1 := hw9; clear hw9
      rw [hμ1.1] at hP; have hμ1 := hμ1.2
      refine fz_if_ne (tgt := 62) (by constructor <;> omega) hx hb dX10_areNext_57 (by decide) (fun c57_ => ?_) (fun c57_ => ?_)
      · have hal : ialk k9 v9 l9 m9 x9_ b9 := by
          rcases hμ1 with ⟨_, h⟩ | ⟨h, _⟩
          · exact h
          · omega
        refine lv_iinc (v := iZ (j + 1)) (lv' := [(8, .int (iZ (j + 1))), (9, .int (iZ (i))), (7, .int (iZ (so))), (6, .int (iZ (mn))), (5, .int (iZ (f9))), (4, .ref (h0 + q)), (3, .int (iZ (u1))), (2, .int (iZ (i0))), (1, .int (iZ (t))), (0, .ref h0)]) hx hb dX10_areNext_62 hl (k := 1) rfl (iZ_add _ _) (by decide) rfl (fun ls hl => ?_)
        refine lv_iload hx hb dX10_areNext_65 (lv_at hl 1 rfl) ?_
        refine lv_aload_n hx hb dX10_areNext_67 rfl (lv_at hl 9 rfl) ?_
        refine fz_get (D := (dC, dI)) (ci := 10) (v := .ref (h0 + 648)) (C := RX10) (T := TX10) (N := 53) hx hb hts inG10 hown hK hP (k := 0) (by decide) (F := mF h0) mE_obj rfl 20 (by decide) (hts _ k1186) (fun _ h9 => h9) rfl dX10_areNext_68 ?_
        refine lv_iload_n hx hb dX10_areNext_71 rfl (lv_at hl 8 rfl) ?_
        refine fz_ald (k := 648) (n := 70) (k2 := (649 + (t).toNat)) hx hb hK hP 2 rfl (by decide) mE_span rfl ⟨by omega, by omega⟩ (by decide) (if_pos (by omega)) dX10_areNext_72 ?_
        refine lv_iload hx hb dX10_areNext_73 (lv_at hl 1 rfl) ?_
        refine fz_ld (k := (649 + (t).toNat)) (n := 900) hx hb hK hP 0 (by omega) (mE_spanR (by omega)) rfl ⟨by omega, by omega⟩ (by decide) dX10_areNext_75 ?_
        rw [show μ (649 + (t).toNat) (i).toNat = 1 + (rN l9 : Int) from (by exact g3)]
        refine lv_iadd hx hb dX10_areNext_76 ?_
        refine lv_topi (fun x9 ex9 => ?_)
        obtain rfl : x9 = iZ (i + (1 + (rN l9 : Int))) := ex9.trans (iZ_add _ _)
        refine lv_istore (lv' := [(9, .int (iZ (i + (1 + (rN l9 : Int))))), (8, .int (iZ (j + 1))), (7, .int (iZ (so))), (6, .int (iZ (mn))), (5, .int (iZ (f9))), (4, .ref (h0 + q)), (3, .int (iZ (u1))), (2, .int (iZ (i0))), (1, .int (iZ (t))), (0, .ref h0)]) hx hb dX10_areNext_77 hl (by decide) rfl (fun ls hl => ?_)
        refine lv_goto (tgt := 29) hx hb dX10_areNext_79 (by decide) ?_
        exact ih (i + (1 + (rN l9 : Int))) (j + 1) (w9) μ H locs ls (by rfl) (by rw [show (i + (1 + (rN l9 : Int))).toNat = i.toNat + 1 + rN l9 by omega]; exact g5) (by omega) (by omega) (by
                        rw [show (j + 1).toNat = j.toNat + 1 by omega, hS9, hx9, hex]
                        exact ⟨fun h => h.2, fun h => ⟨hal, h⟩⟩) (by exact f8) (by omega) (by omega) hP hS (lv_sub hl [0, 1, 2, 3, 4, 5, 6, 7, 8, 9] rfl)
      · have hna : ¬ ialk k9 v9 l9 m9 x9_ b9 := by
          rcases hμ1 with ⟨h, _⟩ | ⟨_, h⟩
          · omega
          · exact h
        exact hexit60 (i) (j) (w9) μ H locs ls (by
                        refine ⟨rfl, fun h => ?_⟩
                        have h9 := hx9.mp h
                        rw [hex] at h9
                        exact hna h9.1) hP hS (lv_sub hl [] rfl)
set_option maxHeartbeats 4000000 in
set_option maxRecDepth 100000 in
theorem m_areNext (l : Launch) (dC : Nat → ClassId) (dI : Nat → Nat → Nat) (cI cZ cII cIII : ClassId) (h0 sz : Nat) (μ : va_M) (t : Int) (i0 : Int) (u1 : Int) (q : Nat) (f9 : Int) (mn : Int) (k : Nat) (v : Int) (w1 : Rw) (wb : Rw) (pb : Int) (ht : 0 ≤ t ∧ t < 70) (hu : 0 ≤ u1 ∧ u1 < 70) (hi : 0 ≤ i0 ∧ i0 + 1 + rN w1 ≤ 900) (h1 : IA μ t.toNat i0.toNat k v w1) (hw1 : iWF k v w1) (hq : rowQ q) (hrow : rowIs μ q wb pb) (hR : RA μ u1.toNat wb pb.toNat) (hpb : 0 ≤ pb ∧ pb + rN wb ≤ 900) (hwb : rWF wb) (h260 : rI wb ≤ 260) (hm9_ : mn = rI wb) (hf9 : 0 ≤ f9 ∧ f9 ≤ rI wb) (hd : rH w1 ≤ 20) : Met l yX10_areNext (Cond.code yX10_areNext cX10_areNext 10 (some .boolean) :: wsG) ({ frames := 24, cells := 0, slots := 0, locals := 740 } : Room) (va_Pc [.ref h0, .int (iZ (t)), .int (iZ (i0)), .int (iZ (u1)), .ref (h0 + q), .int (iZ (f9)), .int (iZ (mn))] (fun U => U.heap.size = sz ∧ va_P (dC, dI) vwCl (fw (mE cI cZ cII cIII h0) h0 6325 μ) U.heap ∧ va_K (dC, dI) vwCl (mT cI cZ cII cIII) U)) (va_Qi (fun (r9 : Int32) (u : va_M × Int) => r9 = iZ u.2 ∧ (fun (u : va_M) (r : Int) => u = μ ∧ ((r = 1 ∧ nxt w1 (rdrop f9.toNat wb)) ∨ (r = 0 ∧ ¬ nxt w1 (rdrop f9.toNat wb)))) u.1 u.2) (fun u t => va_P (dC, dI) vwCl (fw (mE cI cZ cII cIII h0) h0 6325 u.1) t.heap ∧ va_K (dC, dI) vwCl (mT cI cZ cII cIII) t) (fA h0 6325 sz)) 0 0 (fA h0 6325 sz) := by
  refine Met.ofW (cc := cX10_areNext) (maxL := 10) (ret := (some .boolean)) (by decide) rfl ?_
  intro p e s m args below meth c s₁ B hml hv
  obtain ⟨rfl, hsz, hP, hK⟩ := hv
  have hx := B.exec
  have hb := B.bytes
  have hr := B.returns
  have hts : ∀ w ∈ wsG, w.before _ s = true := hG_of (atoms_spec (ws := (Cond.code yX10_areNext cX10_areNext 10 (some .boolean) :: wsG)) B.pre)
  have hown : s.vm.findClass RX10 = some m.cls := findClass_of_methodNamed B.named
  have hlocks := B.notSynchronized
  subst hsz
  have hS : va_S (fA h0 6325 s.heap.size) s.heap s.heap [] := va_S.rf
  have hl := lv_entry ([.ref h0, .int (iZ (t)), .int (iZ (i0)), .int (iZ (u1)), .ref (h0 + q), .int (iZ (f9)), .int (iZ (mn))]) (n := 10) (Nat.le_of_ble_eq_true rfl)
  rw [lg_entry_eq]
  generalize (lg_sl ([.ref h0, .int (iZ (t)), .int (iZ (i0)), .int (iZ (u1)), .ref (h0 + q), .int (iZ (f9)), .int (iZ (mn))]) ++ List.replicate (10 - (lg_sl ([.ref h0, .int (iZ (t)), .int (iZ (i0)), .int (iZ (u1)), .ref (h0 + q), .int (iZ (f9)), .int (iZ (mn))])).length) Slot.unset).toArray = ls at hl ⊢
  have hl : lv_has ls 10 [(0, .ref h0), (1, .int (iZ (t))), (2, .int (iZ (i0))), (3, .int (iZ (u1))), (4, .ref (h0 + q)), (5, .int (iZ (f9))), (6, .int (iZ (mn)))] := hl
  refine lv_aload_n hx hb dX10_areNext_0 rfl (lv_at hl 0 rfl) ?_
  refine lv_iload_n hx hb dX10_areNext_1 rfl (lv_at hl 1 rfl) ?_
  refine lv_iload_n hx hb dX10_areNext_2 rfl (lv_at hl 2 rfl) ?_
  refine va_calli (va_runV (As := [.int (iZ (t)), .int (iZ (i0))]) (rest := []) ⟨hx, hb, hml, hown, hts⟩ (m_itemsIn l dC dI cI cZ cII cIII h0 s.heap.size μ (t) (i0) (w1) (by first | assumption | omega | exact ⟨by omega, by omega⟩) (by omega) (by exact h1.2.2.1) (by exact h1.2.2.2)) (cwV 2 hts (gV_G k1400 k1402 ks_yX10_itemsIn k13 k1403) rfl rfl rfl (by decide +kernel) ⟨Nat.le_of_ble_eq_true rfl, Nat.le_of_ble_eq_true rfl⟩) ⟨fun a U g mk q => by obtain ⟨q0, q1, qP, qK⟩ := q; exact ⟨q0, q1, qP, va_K.moved (u := U) (U := U.calling g mk a) (Vm.Alike.refl U.vm) qK⟩, va_recv hK hP (ci := 10) (q0 := 0) rfl ((fw_get (by decide)).trans (by rw [mE_obj]; rfl)), fun U hU hW => ⟨rfl, by rw [hU], by rw [hU]; exact hP, va_K.moved hW.alike hK⟩⟩ rfl rfl hl.1 rfl (lv_room (Nat.le_of_ble_eq_true rfl)) dX10_areNext_3 ⟨Nat.le_of_ble_eq_true rfl, Nat.le_of_ble_eq_true rfl⟩) hS (fun q _ h => fA_le hS.1 q h) (fA_le hS.1) (fun r9 u9 t9 H1 locs ht9 hvm9 hw9 hB9 hz9 hk9 hS => ?_)
  obtain ⟨μ3, so9⟩ := u9
  obtain ⟨hP, -⟩ := hB9
  rw [ht9] at hP
  generalize H1 = H at hP hS ⊢
  obtain ⟨e9, hw9⟩ := hw9
  have e9 : r9 = iZ so9 := e9
  subst e9
  simp only at hP hw9
  have hμ3 := hw9; clear hw9
  rw [hμ3.1] at hP; have hμ3 := hμ3.2
  have hIw := rI_N2 w1
  have hso : so9 = rI w1 := hμ3
  refine lv_istore (lv' := [(7, .int (iZ (so9))), (0, .ref h0), (1, .int (iZ (t))), (2, .int (iZ (i0))), (3, .int (iZ (u1))), (4, .ref (h0 + q)), (5, .int (iZ (f9))), (6, .int (iZ (mn)))]) hx hb dX10_areNext_6 hl (by decide) rfl (fun ls hl => ?_)
  refine lv_iload hx hb dX10_areNext_8 (lv_at hl 6 rfl) ?_
  refine lv_istore (lv' := [(8, .int (iZ (f9))), (7, .int (iZ (so9))), (0, .ref h0), (1, .int (iZ (t))), (2, .int (iZ (i0))), (3, .int (iZ (u1))), (4, .ref (h0 + q)), (5, .int (iZ (f9))), (6, .int (iZ (mn)))]) hx hb dX10_areNext_10 hl (by decide) rfl (fun ls hl => ?_)
  refine lv_iload hx hb dX10_areNext_12 (lv_at hl 7 rfl) ?_
  refine lv_iload hx hb dX10_areNext_14 (lv_at hl 1 rfl) ?_
  refine lv_iadd hx hb dX10_areNext_16 ?_
  refine lv_topi (fun x9 ex9 => ?_)
  obtain rfl : x9 = iZ (f9 + so9) := ex9.trans (iZ_add _ _)
  refine lv_iload hx hb dX10_areNext_17 (lv_at hl 8 rfl) ?_
  refine fz_icmp_le (tgt := 24) (by constructor <;> omega) (by constructor <;> omega) hx hb dX10_areNext_19 (by decide) (fun c19_ => ?_) (fun c19_ => ?_)
  · refine lv_iload_n hx hb dX10_areNext_24 rfl (lv_at hl 4 rfl) ?_
    refine lv_iconst (v := iZ 1) hx hb dX10_areNext_25 rfl ?_
    refine lv_iadd hx hb dX10_areNext_26 ?_
    refine lv_topi (fun x9 ex9 => ?_)
    obtain rfl : x9 = iZ (i0 + 1) := ex9.trans (iZ_add _ _)
    refine lv_istore (lv' := [(9, .int (iZ (i0 + 1))), (8, .int (iZ (f9))), (7, .int (iZ (so9))), (0, .ref h0), (1, .int (iZ (t))), (2, .int (iZ (i0))), (3, .int (iZ (u1))), (4, .ref (h0 + q)), (5, .int (iZ (f9))), (6, .int (iZ (mn)))]) hx hb dX10_areNext_27 hl (by decide) rfl (fun ls hl => ?_)
    refine LX10_areNext_29 hx hb hml hown hts hK (Nat.le_of_ble_eq_true rfl) (Nat.le_of_ble_eq_true rfl) (Nat.le_of_ble_eq_true rfl) (Nat.le_of_ble_eq_true rfl) (μ) (t) (i0) (u1) (q) (f9) (mn) (k) (v) (w1) (wb) (pb) (so9) (by assumption) (by assumption) (by assumption) (by assumption) (by assumption) (by assumption) (by assumption) (by assumption) (by assumption) (by assumption) (by assumption) (by assumption) (by assumption) (by assumption) ?_ ?_ _ (i0 + 1) (f9) (w1) μ H locs ls (by rfl) (by rw [show (i0 + 1).toNat = i0.toNat + 1 by omega]; exact h1.2.2.2) (by omega) (by omega) (by exact Iff.rfl) (by exact hw1.2.2.2.2.2.2) (by exact hd) (Nat.lt_succ_self _) hP hS (lv_sub hl [0, 1, 2, 9, 8, 7, 6, 5, 4, 3] rfl)
    · intro i_4 j_4 w_4 μ4_ H locs ls q2_4 hP hS hl
      have hl : lv_has ls 10 [] := hl
      refine lv_iconst (v := iZ 0) hx hb dX10_areNext_60 rfl ?_
      exact W.zret (v := iZ (0)) hx hb hr (by decide +kernel) (fun t9 ht9 hW9 => ⟨⟨iZ (0), (μ4_, 0), rfl, ⟨rfl, (by
                    dsimp only
                    obtain ⟨c1, c2⟩ := q2_4
                    exact ⟨c1, Or.inr ⟨rfl, c2⟩⟩)⟩, by rw [ht9]; exact hP, va_K.moved hW9.alike hK⟩, hS.F ht9⟩) hS.2.2 dX10_areNext_61
    · intro i_5 j_5 w_5 μ5_ H locs ls q1_5 hP hS hl
      have hl : lv_has ls 10 [] := hl
      refine lv_iconst (v := iZ 1) hx hb dX10_areNext_82 rfl ?_
      exact W.zret (v := iZ (1)) hx hb hr (by decide +kernel) (fun t9 ht9 hW9 => ⟨⟨iZ (1), (μ5_, 1), rfl, ⟨rfl, (by
                    dsimp only
                    obtain ⟨c1, c2⟩ := q1_5
                    exact ⟨c1, Or.inl ⟨rfl, c2⟩⟩)⟩, by rw [ht9]; exact hP, va_K.moved hW9.alike hK⟩, hS.F ht9⟩) hS.2.2 dX10_areNext_83
  · refine lv_iconst (v := iZ 0) hx hb dX10_areNext_22 rfl ?_
    exact W.zret (v := iZ (0)) hx hb hr (by decide +kernel) (fun t9 ht9 hW9 => ⟨⟨iZ (0), (μ, 0), rfl, ⟨rfl, (by
                dsimp only
                refine ⟨rfl, Or.inr ⟨rfl, fun h => ?_⟩⟩
                have h9 := nxt_I _ _ h
                rw [rdrop_I] at h9
                omega)⟩, by rw [ht9]; exact hP, va_K.moved hW9.alike hK⟩, hS.F ht9⟩) hS.2.2 dX10_areNext_23

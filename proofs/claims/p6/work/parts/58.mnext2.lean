theorem dX10_fusesRow_0 : decode cX10_fusesRow 0 = .ok (.aload_n 0, 1) := by decide +kernel
theorem dX10_fusesRow_1 : decode cX10_fusesRow 1 = .ok (.iload 6, 2) := by decide +kernel
theorem dX10_fusesRow_3 : decode cX10_fusesRow 3 = .ok (.aload_n 0, 1) := by decide +kernel
theorem dX10_fusesRow_4 : decode cX10_fusesRow 4 = .ok (.getfield 45, 3) := by decide +kernel
theorem dX10_fusesRow_7 : decode cX10_fusesRow 7 = .ok (.iload_n 1, 1) := by decide +kernel
theorem dX10_fusesRow_8 : decode cX10_fusesRow 8 = .ok (.aaload, 1) := by decide +kernel
theorem dX10_fusesRow_9 : decode cX10_fusesRow 9 = .ok (.iload_n 2, 1) := by decide +kernel
theorem dX10_fusesRow_10 : decode cX10_fusesRow 10 = .ok (.iaload, 1) := by decide +kernel
theorem dX10_fusesRow_11 : decode cX10_fusesRow 11 = .ok (.iconst (-1), 1) := by decide +kernel
theorem dX10_fusesRow_12 : decode cX10_fusesRow 12 = .ok (.invokevirtual 193, 3) := by decide +kernel
theorem dX10_fusesRow_15 : decode cX10_fusesRow 15 = .ok (.istore 7, 2) := by decide +kernel
theorem dX10_fusesRow_17 : decode cX10_fusesRow 17 = .ok (.iconst 0, 1) := by decide +kernel
theorem dX10_fusesRow_18 : decode cX10_fusesRow 18 = .ok (.istore 8, 2) := by decide +kernel
theorem dX10_fusesRow_20 : decode cX10_fusesRow 20 = .ok (.iload 5, 2) := by decide +kernel
theorem dX10_fusesRow_22 : decode cX10_fusesRow 22 = .ok (.istore 9, 2) := by decide +kernel
theorem dX10_fusesRow_24 : decode cX10_fusesRow 24 = .ok (.iload_n 2, 1) := by decide +kernel
theorem dX10_fusesRow_25 : decode cX10_fusesRow 25 = .ok (.iconst 1, 1) := by decide +kernel
theorem dX10_fusesRow_26 : decode cX10_fusesRow 26 = .ok (.iadd, 1) := by decide +kernel
theorem dX10_fusesRow_27 : decode cX10_fusesRow 27 = .ok (.istore 10, 2) := by decide +kernel
theorem dX10_fusesRow_29 : decode cX10_fusesRow 29 = .ok (.iload 10, 2) := by decide +kernel
theorem dX10_fusesRow_31 : decode cX10_fusesRow 31 = .ok (.iload_n 2, 1) := by decide +kernel
theorem dX10_fusesRow_32 : decode cX10_fusesRow 32 = .ok (.aload_n 0, 1) := by decide +kernel
theorem dX10_fusesRow_33 : decode cX10_fusesRow 33 = .ok (.getfield 51, 3) := by decide +kernel
theorem dX10_fusesRow_36 : decode cX10_fusesRow 36 = .ok (.iload_n 1, 1) := by decide +kernel
theorem dX10_fusesRow_37 : decode cX10_fusesRow 37 = .ok (.aaload, 1) := by decide +kernel
theorem dX10_fusesRow_38 : decode cX10_fusesRow 38 = .ok (.iload_n 2, 1) := by decide +kernel
theorem dX10_fusesRow_39 : decode cX10_fusesRow 39 = .ok (.iaload, 1) := by decide +kernel
theorem dX10_fusesRow_40 : decode cX10_fusesRow 40 = .ok (.iadd, 1) := by decide +kernel
theorem dX10_fusesRow_41 : decode cX10_fusesRow 41 = .ok (.if_icmp .ge 43, 3) := by decide +kernel
theorem dX10_fusesRow_44 : decode cX10_fusesRow 44 = .ok (.iload 8, 2) := by decide +kernel
theorem dX10_fusesRow_46 : decode cX10_fusesRow 46 = .ok (.aload_n 0, 1) := by decide +kernel
theorem dX10_fusesRow_47 : decode cX10_fusesRow 47 = .ok (.iload_n 1, 1) := by decide +kernel
theorem dX10_fusesRow_48 : decode cX10_fusesRow 48 = .ok (.iload 10, 2) := by decide +kernel
theorem dX10_fusesRow_50 : decode cX10_fusesRow 50 = .ok (.iload_n 3, 1) := by decide +kernel
theorem dX10_fusesRow_51 : decode cX10_fusesRow 51 = .ok (.aload 4, 2) := by decide +kernel
theorem dX10_fusesRow_53 : decode cX10_fusesRow 53 = .ok (.iload 9, 2) := by decide +kernel
theorem dX10_fusesRow_55 : decode cX10_fusesRow 55 = .ok (.iaload, 1) := by decide +kernel
theorem dX10_fusesRow_56 : decode cX10_fusesRow 56 = .ok (.iload 6, 2) := by decide +kernel
theorem dX10_fusesRow_58 : decode cX10_fusesRow 58 = .ok (.invokevirtual 215, 3) := by decide +kernel
theorem dX10_fusesRow_61 : decode cX10_fusesRow 61 = .ok (.iadd, 1) := by decide +kernel
theorem dX10_fusesRow_62 : decode cX10_fusesRow 62 = .ok (.istore 8, 2) := by decide +kernel
theorem dX10_fusesRow_64 : decode cX10_fusesRow 64 = .ok (.iinc 9 1, 3) := by decide +kernel
theorem dX10_fusesRow_67 : decode cX10_fusesRow 67 = .ok (.iload 10, 2) := by decide +kernel
theorem dX10_fusesRow_69 : decode cX10_fusesRow 69 = .ok (.aload_n 0, 1) := by decide +kernel
theorem dX10_fusesRow_70 : decode cX10_fusesRow 70 = .ok (.getfield 51, 3) := by decide +kernel
theorem dX10_fusesRow_73 : decode cX10_fusesRow 73 = .ok (.iload_n 1, 1) := by decide +kernel
theorem dX10_fusesRow_74 : decode cX10_fusesRow 74 = .ok (.aaload, 1) := by decide +kernel
theorem dX10_fusesRow_75 : decode cX10_fusesRow 75 = .ok (.iload 10, 2) := by decide +kernel
theorem dX10_fusesRow_77 : decode cX10_fusesRow 77 = .ok (.iaload, 1) := by decide +kernel
theorem dX10_fusesRow_78 : decode cX10_fusesRow 78 = .ok (.iadd, 1) := by decide +kernel
theorem dX10_fusesRow_79 : decode cX10_fusesRow 79 = .ok (.istore 10, 2) := by decide +kernel
theorem dX10_fusesRow_81 : decode cX10_fusesRow 81 = .ok (.goto (-52), 3) := by decide +kernel
theorem dX10_fusesRow_84 : decode cX10_fusesRow 84 = .ok (.aload_n 0, 1) := by decide +kernel
theorem dX10_fusesRow_85 : decode cX10_fusesRow 85 = .ok (.iload 6, 2) := by decide +kernel
theorem dX10_fusesRow_87 : decode cX10_fusesRow 87 = .ok (.iload 7, 2) := by decide +kernel
theorem dX10_fusesRow_89 : decode cX10_fusesRow 89 = .ok (.invokevirtual 219, 3) := by decide +kernel
theorem dX10_fusesRow_92 : decode cX10_fusesRow 92 = .ok (.iload 8, 2) := by decide +kernel
theorem dX10_fusesRow_94 : decode cX10_fusesRow 94 = .ok (.ireturn, 1) := by decide +kernel
theorem nx_N {w b : Rw} (h1 : rWF w) (h2 : rWF b) (h : nxt w b) : rN (rfus w b) = rN w := by
  obtain ⟨a1, a2, _⟩ := nxt_ralk w b h
  rw [a2]
  exact rfus_N _ _ h1 (rpre_WF _ _ _ h2 trivial) a1
theorem it_N {k m : Nat} {v x : Int} {l b : Rw} (h1 : iWF k v l) (h2 : iWF m x b) (h : ialk k v l m x b) : rN (rfus l b) = rN l := by
  obtain ⟨f1, f2, f3, f4, f5, f6, f7⟩ := h1
  rcases h with ⟨q1, _⟩ | ⟨_, _, _, q4⟩
  · unfold isTx at q1
    obtain rfl := f2 (by omega)
    cases b <;> rfl
  · exact rfus_N _ _ f7 h2.2.2.2.2.2.2 q4
/-- what stands of the row that is made, where one is made -/
def fMem (μ0 μ : va_M) (o1 n1 : Int) (w1 w b bj : Rw) : Prop := (o1 = -1 → μ = μ0) ∧ (0 ≤ o1 → fr (PG o1.toNat n1.toNat) μ0 μ ∧ μ 719 o1.toNat = n1 + rN w1 - rN w ∧ ∀ u8 : va_M, agr μ u8 o1.toNat n1.toNat (μ 719 o1.toNat).toNat → RA u8 o1.toNat (rfus w bj) (μ 719 o1.toNat).toNat → RA u8 o1.toNat (rfus w1 b) n1.toNat)
def capI (o1 n : Int) (m : Nat) : Prop := 0 ≤ o1 → 0 ≤ n ∧ n + m ≤ 900
theorem pg_keep {μ u : va_M} {o1 t : Int} {n : Nat} (h1 : o1 = -1 → u = μ) (h2 : 0 ≤ o1 → fr (PG o1.toNat n) μ u) (h3 : -1 ≤ o1 ∧ o1 < 70 ∧ o1 ≠ t) (h4 : 0 ≤ t ∧ t < 70) (x : Nat) : u (649 + t.toNat) x = μ (649 + t.toNat) x := by
  by_cases h9 : o1 = -1
  · rw [h1 h9]
  · exact h2 (by omega) _ _ (by unfold PG; omega)
theorem rowQ_PG {q o n y : Nat} (h : rowQ q) (ho : o < 70) : ¬ PG o n q y := by unfold rowQ at h; unfold PG; omega
set_option maxHeartbeats 4000000 in
set_option maxRecDepth 100000 in
theorem LX10_fusesRow_29 {p : Program} {l : Launch} {e : Env} {R : Room} {s : State} {m : MethodId} {args : Array Value} {below : List Frame} {meth : Method} {c : Code} {cells slots : Nat} {Q : State → Prop} {dC : Nat → ClassId} {dI : Nat → Nat → Nat} {h0 : Nat} {cI cZ cII cIII : ClassId} (hx : p.tables.exec = Jvm.exec) (hb : c.code = cX10_fusesRow) (hml : c.maxLocals = 11) (hown : s.vm.findClass RX10 = some m.cls) (hts : ∀ w ∈ wsG, w.before args s = true) (hK : va_K (dC, dI) vwCl (mT cI cZ cII cIII) s) (hRf : 24 ≤ R.frames) (hRl : 740 ≤ R.locals) (hRc : cells ≤ R.cells) (hRs : slots ≤ R.slots) (μ0 : va_M) (t : Int) (i0 : Int) (u1 : Int) (q : Nat) (f9 : Int) (o1 : Int) (k : Nat) (v : Int) (w1 : Rw) (wb : Rw) (pb : Int) (y1 : Int) (n1 : Int) (ht : 0 ≤ t ∧ t < 70) (hu : 0 ≤ u1 ∧ u1 < 70) (hi : 0 ≤ i0 ∧ i0 + 1 + rN w1 ≤ 900) (h1 : IA μ0 t.toNat i0.toNat k v w1) (hw1 : iWF k v w1) (hq : rowQ q) (hrow : rowIs μ0 q wb pb) (hR : RA μ0 u1.toNat wb pb.toNat) (hpb : 0 ≤ pb ∧ pb + rN wb ≤ 900) (hwb : rWF wb) (h260 : rI wb ≤ 260) (hf9 : 0 ≤ f9 ∧ f9 ≤ rI wb) (hd : rH w1 ≤ 20) (ho : -1 ≤ o1 ∧ o1 < 70 ∧ o1 ≠ t ∧ o1 ≠ u1) (hnx : nxt w1 (rdrop f9.toNat wb)) (hn1 : capI o1 n1 (rN w1)) (hexit84 : ∀ (i : Int) (j : Int) (x : Int) (w : Rw) (μ : va_M) (H : Heap) (locs : List Loc) (ls : Array Slot), ((o1 = -1 → μ = μ0) ∧ (0 ≤ o1 → fr (PG o1.toNat n1.toNat) μ0 μ ∧ μ 719 o1.toNat = n1 + rN w1 ∧ RA μ o1.toNat (rfus w1 (rdrop f9.toNat wb)) n1.toNat)) → (x = rfC w1 (rdrop f9.toNat wb)) → va_P (dC, dI) vwCl (fw (mE cI cZ cII cIII h0) h0 6325 μ) H → va_S (fA h0 6325 s.heap.size) s.heap H locs → lv_has ls 11 [(8, .int (iZ (x))), (7, .int (iZ (y1))), (6, .int (iZ (o1))), (5, .int (iZ (f9))), (4, .ref (h0 + q)), (3, .int (iZ (u1))), (2, .int (iZ (i0))), (1, .int (iZ (t))), (0, .ref h0)] → W p l e R s m args below meth c H locs cells slots Q (F0 m 84 ls [])) :
    ∀ (n9 : Nat) (i : Int) (j : Int) (x : Int) (w : Rw) (μ : va_M) (H : Heap) (locs : List Loc) (ls : Array Slot), (fMem μ0 μ o1 n1 w1 w (rdrop f9.toNat wb) (rdrop j.toNat wb)) → (RA μ0 t.toNat w i.toNat) → (i + rN w = i0 + 1 + rN w1 ∧ i0 < i) → (f9 ≤ j ∧ j + rI w ≤ rI wb) → (nxt w (rdrop j.toNat wb)) → (rWF w) → (rH w ≤ 20) → (x + rfC w (rdrop j.toNat wb) = rfC w1 (rdrop f9.toNat wb) ∧ 0 ≤ x) → rN w < n9 → va_P (dC, dI) vwCl (fw (mE cI cZ cII cIII h0) h0 6325 μ) H → va_S (fA h0 6325 s.heap.size) s.heap H locs → lv_has ls 11 [(10, .int (iZ (i))), (9, .int (iZ (j))), (8, .int (iZ (x))), (7, .int (iZ (y1))), (6, .int (iZ (o1))), (5, .int (iZ (f9))), (4, .ref (h0 + q)), (3, .int (iZ (u1))), (2, .int (iZ (i0))), (1, .int (iZ (t))), (0, .ref h0)] → W p l e R s m args below meth c H locs cells slots Q (F0 m 29 ls []) := by
  intro n9
  induction n9 with
  | zero => intro i j x w μ H locs ls hm hw hii hj hx9 hf hh hx0 hm9 hP hS hl; exact absurd hm9 (Nat.not_lt_zero _)
  | succ n9 ih =>
    intro i j x w μ H locs ls hm hw hii hj hx9 hf hh hx0 hm9 hP hS hl
    have hs_t : ∀ x, μ (507 + t.toNat) x = μ0 (507 + t.toNat) x ∧ μ (578 + t.toNat) x = μ0 (578 + t.toNat) x ∧ μ (649 + t.toNat) x = μ0 (649 + t.toNat) x := fun x => by
      by_cases h9 : o1 = -1
      · rw [hm.1 h9]; exact ⟨rfl, rfl, rfl⟩
      · have h8 := (hm.2 (by omega)).1
        exact ⟨h8 _ _ (by unfold PG; omega), h8 _ _ (by unfold PG; omega), h8 _ _ (by unfold PG; omega)⟩
    have hs_u1 : ∀ x, μ (507 + u1.toNat) x = μ0 (507 + u1.toNat) x ∧ μ (578 + u1.toNat) x = μ0 (578 + u1.toNat) x ∧ μ (649 + u1.toNat) x = μ0 (649 + u1.toNat) x := fun x => by
      by_cases h9 : o1 = -1
      · rw [hm.1 h9]; exact ⟨rfl, rfl, rfl⟩
      · have h8 := (hm.2 (by omega)).1
        exact ⟨h8 _ _ (by unfold PG; omega), h8 _ _ (by unfold PG; omega), h8 _ _ (by unfold PG; omega)⟩
    have hs_q : ∀ y, μ q y = μ0 q y := fun y => by
      by_cases h9 : o1 = -1
      · rw [hm.1 h9]
      · exact (hm.2 (by omega)).1 _ _ (rowQ_PG hq (by omega))
    have hrw := rfC_rng w1 (rdrop f9.toNat wb)
    refine lv_iload hx hb dX10_fusesRow_29 (lv_at hl 0 rfl) ?_
    refine lv_iload_n hx hb dX10_fusesRow_31 rfl (lv_at hl 8 rfl) ?_
    refine lv_aload_n hx hb dX10_fusesRow_32 rfl (lv_at hl 10 rfl) ?_
    refine fz_get (D := (dC, dI)) (ci := 10) (v := .ref (h0 + 648)) (C := RX10) (T := TX10) (N := 53) hx hb hts inG10 hown hK hP (k := 0) (by decide) (F := mF h0) mE_obj rfl 20 (by decide) (hts _ k1186) (fun _ h9 => h9) rfl dX10_fusesRow_33 ?_
    refine lv_iload_n hx hb dX10_fusesRow_36 rfl (lv_at hl 9 rfl) ?_
    refine fz_ald (k := 648) (n := 70) (k2 := (649 + (t).toNat)) hx hb hK hP 2 rfl (by decide) mE_span rfl ⟨by omega, by omega⟩ (by decide) (if_pos (by omega)) dX10_fusesRow_37 ?_
    refine lv_iload_n hx hb dX10_fusesRow_38 rfl (lv_at hl 8 rfl) ?_
    refine fz_ld (k := (649 + (t).toNat)) (n := 900) hx hb hK hP 0 (by omega) (mE_spanR (by omega)) rfl ⟨by omega, by omega⟩ (by decide) dX10_fusesRow_39 ?_
    rw [show μ (649 + (t).toNat) (i0).toNat = 1 + (rN w1 : Int) from (by rw [(hs_t _).2.2]; exact h1.2.2.1)]
    refine lv_iadd hx hb dX10_fusesRow_40 ?_
    refine lv_topi (fun x9 ex9 => ?_)
    obtain rfl : x9 = iZ (i0 + (1 + (rN w1 : Int))) := ex9.trans (iZ_add _ _)
    refine fz_icmp_ge (tgt := 84) (by constructor <;> omega) (by constructor <;> omega) hx hb dX10_fusesRow_41 (by decide) (fun c41_ => ?_) (fun c41_ => ?_)
    · exact hexit84 (i) (j) (x) (w) μ H locs ls (by
                    obtain rfl := rw_0 (w := w) (by omega)
                    have hN0 : rN (Std.DTreeMap.Internal.Impl.leaf : Rw) = 0 := rfl
                    refine ⟨hm.1, fun h => ?_⟩
                    obtain ⟨m1, m2, m3⟩ := hm.2 h
                    exact ⟨m1, by omega, m3 μ (fun _ _ _ => ⟨rfl, rfl, rfl⟩) (by cases rdrop j.toNat wb <;> exact trivial)⟩) (by
                    obtain rfl := rw_0 (w := w) (by omega)
                    have h9 : rfC Std.DTreeMap.Internal.Impl.leaf (rdrop j.toNat wb) = 0 := by cases rdrop j.toNat wb <;> rfl
                    omega) hP hS (lv_sub hl [2, 3, 4, 5, 6, 7, 8, 9, 10] rfl)
    · obtain ⟨z9, k9, v9, l9, w9, hwe⟩ : ∃ (z k : Nat) (v : Int) (l r : Rw), w = Std.DTreeMap.Internal.Impl.inner z k v l r := by
        cases w with
        | leaf =>
          exfalso
          have e0 : rN (Std.DTreeMap.Internal.Impl.leaf : Rw) = 0 := rfl
          omega
        | inner z k v l r => exact ⟨z, k, v, l, r, rfl⟩
      subst hwe
      obtain ⟨g1, g2, g3, g4, g5⟩ := hw
      obtain ⟨f1, f2, f3, f4, f5, f6, f7, f8⟩ := hf
      rw [rN_in] at hii hm9
      rw [rI_in] at hj
      rw [rH_in] at hh
      have d1 := rdrop_I j.toNat wb
      have d2 := rdrop_N j.toNat wb
      obtain ⟨y9, m9, x9_, b9, u9_, hex⟩ := rI_pos (w := rdrop j.toNat wb) (by omega)
      have d3 := RA_drop j.toNat wb _ hR
      rw [hex] at d3
      obtain ⟨p1, p2, p3, p4, p5⟩ := d3
      have d4 := rdrop_WF j.toNat wb hwb
      rw [hex] at d4 d2 d1
      obtain ⟨e1, e2, e3, e4, e5, e6, e7, e8⟩ := d4
      rw [rN_in] at d2
      rw [rI_in] at d1
      have hro := hrow j.toNat (by omega)
      have hpo : (pb + (rO wb j.toNat : Int)).toNat = pb.toNat + rO wb j.toNat := by omega
      have hS9 := rdrop_S hex
      have hqq : (723 ≤ q ∧ q < 737) ∨ (738 ≤ q ∧ q < 752) := hq
      rw [hex] at hx9 hx0
      obtain ⟨ha9, hx9⟩ := hx9
      have hF9 : iWF k9 v9 l9 := ⟨f1, f2, f3, f4, f5, f6, f7⟩
      have hE9 : iWF m9 x9_ b9 := ⟨e1, e2, e3, e4, e5, e6, e7⟩
      clear f1 f2 f3 f4 f5 f6 f7 e1 e2 e3 e4 e5 e6 e7 e8
      have hN9 := it_N hF9 hE9 ha9
      clear hqq
      refine lv_iload hx hb dX10_fusesRow_44 (lv_at hl 2 rfl) ?_
      refine lv_aload_n hx hb dX10_fusesRow_46 rfl (lv_at hl 10 rfl) ?_
      refine lv_iload_n hx hb dX10_fusesRow_47 rfl (lv_at hl 9 rfl) ?_
      refine lv_iload hx hb dX10_fusesRow_48 (lv_at hl 0 rfl) ?_
      refine lv_iload_n hx hb dX10_fusesRow_50 rfl (lv_at hl 7 rfl) ?_
      refine lv_aload hx hb dX10_fusesRow_51 (lv_at hl 6 rfl) ?_
      refine lv_iload hx hb dX10_fusesRow_53 (lv_at hl 1 rfl) ?_
      refine fz_ld (k := q) (n := 260) hx hb hK hP 0 (by have hq7 := hq; unfold rowQ at hq7; omega) (mE_rowAny (by have hq7 := hq; unfold rowQ at hq7; omega)) rfl ⟨by omega, by omega⟩ (by decide) dX10_fusesRow_55 ?_
      rw [show μ q (j).toNat = (pb + (rO wb j.toNat : Int)) from (by rw [hs_q]; exact hro)]
      refine lv_iload hx hb dX10_fusesRow_56 (lv_at hl 4 rfl) ?_
      refine va_calli (va_runV (As := [.int (iZ (t)), .int (iZ (i)), .int (iZ (u1)), .int (iZ ((pb + (rO wb j.toNat : Int)))), .int (iZ (o1))]) (rest := [.int (iZ (x))]) ⟨hx, hb, hml, hown, hts⟩ (m_fuses l dC dI cI cZ cII cIII h0 (20) H.size μ (t) (i) (u1) ((pb + (rO wb j.toNat : Int))) (o1) (k9) (v9) (l9) (m9) (x9_) (b9) (by first | assumption | omega | exact ⟨by omega, by omega⟩) (by first | assumption | omega | exact ⟨by omega, by omega⟩) (by first | assumption | omega | exact ⟨by omega, by omega⟩) (by intro h; have h7 := hn1 h; have h8 := (hm.2 h).2.1; rw [rN_in] at h8; omega) (by omega) (by omega) (by exact ⟨(hs_t _).1.trans g1, (hs_t _).2.1.trans g2, (hs_t _).2.2.trans g3, RA_kept g4 (fun x _ _ => hs_t x)⟩) (by rw [hpo]; exact ⟨(hs_u1 _).1.trans p1, (hs_u1 _).2.1.trans p2, (hs_u1 _).2.2.trans p3, RA_kept p4 (fun x _ _ => hs_u1 x)⟩) (by exact hF9) (by exact hE9) (by exact ha9) (by omega)) (cwV 5 hts (gV_G k1416 k1418 ks_yX10_fuses k13 k1419) rfl rfl rfl (by decide +kernel) ⟨by show 23 + 1 ≤ _; omega, by show 8 + (11 + 11) + (700) ≤ _; omega⟩) ⟨fun a U g mk q => by obtain ⟨q0, q1, qP, qK⟩ := q; exact ⟨q0, q1, qP, va_K.moved (u := U) (U := U.calling g mk a) (Vm.Alike.refl U.vm) qK⟩, va_recv hK hP (ci := 10) (q0 := 0) rfl ((fw_get (by decide)).trans (by rw [mE_obj]; rfl)), fun U hU hW => ⟨rfl, by rw [hU], by rw [hU]; exact hP, va_K.moved hW.alike hK⟩⟩ rfl rfl hl.1 rfl (lv_room (Nat.le_of_ble_eq_true rfl)) dX10_fusesRow_58 ⟨hRc, hRs⟩) hS (fun q _ h => fA_le hS.1 q h) (fA_le hS.1) (fun r9 u9 t9 H1 locs ht9 hvm9 hw9 hB9 hz9 hk9 hS => ?_)
      obtain ⟨μd, rd⟩ := u9
      obtain ⟨hP, -⟩ := hB9
      rw [ht9] at hP
      generalize H1 = H at hP hS ⊢
      obtain ⟨e9, hw9⟩ := hw9
      have e9 : r9 = iZ rd := e9
      subst e9
      simp only at hP hw9
      have hμd := hw9; clear hw9
      obtain ⟨c1, c2, c3⟩ := hμd
      have ks_t : ∀ x, μd (649 + t.toNat) x = μ (649 + t.toNat) x := fun x => pg_keep c1 (fun h => (c2 h).1) (by omega) (by omega) x
      have hcI : fMem μ μd o1 (μ 719 o1.toNat) l9 l9 b9 b9 ∨ True := Or.inr trivial
      clear hcI
      rw [rfC] at hx0
      have h7C := fC_rng (k := k9) (v := v9) (k2 := m9) (v2 := x9_) (rfC_rng l9 b9)
      refine lv_iadd hx hb dX10_fusesRow_61 ?_
      refine lv_topi (fun x9 ex9 => ?_)
      obtain rfl : x9 = iZ (x + rd) := ex9.trans (iZ_add _ _)
      refine lv_istore (lv' := [(8, .int (iZ (x + rd))), (10, .int (iZ (i))), (9, .int (iZ (j))), (7, .int (iZ (y1))), (6, .int (iZ (o1))), (5, .int (iZ (f9))), (4, .ref (h0 + q)), (3, .int (iZ (u1))), (2, .int (iZ (i0))), (1, .int (iZ (t))), (0, .ref h0)]) hx hb dX10_fusesRow_62 hl (by decide) rfl (fun ls hl => ?_)
      refine lv_iinc (v := iZ (j + 1)) (lv' := [(9, .int (iZ (j + 1))), (8, .int (iZ (x + rd))), (10, .int (iZ (i))), (7, .int (iZ (y1))), (6, .int (iZ (o1))), (5, .int (iZ (f9))), (4, .ref (h0 + q)), (3, .int (iZ (u1))), (2, .int (iZ (i0))), (1, .int (iZ (t))), (0, .ref h0)]) hx hb dX10_fusesRow_64 hl (k := 2) rfl (iZ_add _ _) (by decide) rfl (fun ls hl => ?_)
      refine lv_iload hx hb dX10_fusesRow_67 (lv_at hl 2 rfl) ?_
      refine lv_aload_n hx hb dX10_fusesRow_69 rfl (lv_at hl 10 rfl) ?_
      refine fz_get (D := (dC, dI)) (ci := 10) (v := .ref (h0 + 648)) (C := RX10) (T := TX10) (N := 53) hx hb hts inG10 hown hK hP (k := 0) (by decide) (F := mF h0) mE_obj rfl 20 (by decide) (hts _ k1186) (fun _ h9 => h9) rfl dX10_fusesRow_70 ?_
      refine lv_iload_n hx hb dX10_fusesRow_73 rfl (lv_at hl 9 rfl) ?_
      refine fz_ald (k := 648) (n := 70) (k2 := (649 + (t).toNat)) hx hb hK hP 2 rfl (by decide) mE_span rfl ⟨by omega, by omega⟩ (by decide) (if_pos (by omega)) dX10_fusesRow_74 ?_
      refine lv_iload hx hb dX10_fusesRow_75 (lv_at hl 2 rfl) ?_
      refine fz_ld (k := (649 + (t).toNat)) (n := 900) hx hb hK hP 0 (by omega) (mE_spanR (by omega)) rfl ⟨by omega, by omega⟩ (by decide) dX10_fusesRow_77 ?_
      rw [show μd (649 + (t).toNat) (i).toNat = 1 + (rN l9 : Int) from (by rw [ks_t, (hs_t _).2.2]; exact g3)]
      refine lv_iadd hx hb dX10_fusesRow_78 ?_
      refine lv_topi (fun x9 ex9 => ?_)
      obtain rfl : x9 = iZ (i + (1 + (rN l9 : Int))) := ex9.trans (iZ_add _ _)
      refine lv_istore (lv' := [(10, .int (iZ (i + (1 + (rN l9 : Int))))), (9, .int (iZ (j + 1))), (8, .int (iZ (x + rd))), (7, .int (iZ (y1))), (6, .int (iZ (o1))), (5, .int (iZ (f9))), (4, .ref (h0 + q)), (3, .int (iZ (u1))), (2, .int (iZ (i0))), (1, .int (iZ (t))), (0, .ref h0)]) hx hb dX10_fusesRow_79 hl (by decide) rfl (fun ls hl => ?_)
      refine lv_goto (tgt := 29) hx hb dX10_fusesRow_81 (by decide) ?_
      exact ih (i + (1 + (rN l9 : Int))) (j + 1) (x + rd) (w9) μd H locs ls (by
                    rw [show (j + 1).toNat = j.toNat + 1 by omega, hS9]
                    refine ⟨fun h => by rw [c1 h]; exact hm.1 h, fun h => ?_⟩
                    obtain ⟨d1, d2, d3⟩ := c2 h
                    obtain ⟨m1, m2, m3⟩ := hm.2 h
                    rw [rN_in] at m2
                    have hn8 := hn1 h
                    refine ⟨fr_trans m1 (fr_mono d1 (fun a b hp => by unfold PG at hp ⊢; omega)), by omega, fun u8 ha8 hr8 => ?_⟩
                    obtain ⟨i1, i2, i3, i4⟩ := d3
                    have hq8 := ha8 (μ 719 o1.toNat).toNat (by omega) (by omega)
                    rw [hex] at m3
                    refine m3 u8 (fun y hy1 hy2 => ?_) ⟨hq8.1.trans i1, hq8.2.1.trans i2, hq8.2.2.trans i3, RA_kept i4 (fun y hy1 hy2 => ha8 y (by omega) (by omega)), ?_⟩
                    · have h7 := ha8 y (by omega) (by omega)
                      rw [h7.1, h7.2.1, h7.2.2]
                      exact ⟨d1 _ _ (by unfold PG; omega), d1 _ _ (by unfold PG; omega), d1 _ _ (by unfold PG; omega)⟩
                    · rw [show (μ 719 o1.toNat).toNat + 1 + rN (rfus l9 b9) = (μd 719 o1.toNat).toNat by omega]
                      exact hr8) (by rw [show (i + (1 + (rN l9 : Int))).toNat = i.toNat + 1 + rN l9 by omega]; exact g5) (by omega) (by omega) (by rw [show (j + 1).toNat = j.toNat + 1 by omega, hS9]; exact hx9) (by exact f8) (by omega) (by rw [show (j + 1).toNat = j.toNat + 1 by omega, hS9]; omega) (by omega) hP hS (lv_sub hl [0, 1, 2, 3, 4, 5, 6, 7, 8, 9, 10] rfl)
set_option maxHeartbeats 4000000 in
set_option maxRecDepth 100000 in
theorem m_fusesRow (l : Launch) (dC : Nat → ClassId) (dI : Nat → Nat → Nat) (cI cZ cII cIII : ClassId) (h0 sz : Nat) (μ : va_M) (t : Int) (i0 : Int) (u1 : Int) (q : Nat) (f9 : Int) (o1 : Int) (k : Nat) (v : Int) (w1 : Rw) (wb : Rw) (pb : Int) (ht : 0 ≤ t ∧ t < 70) (hu : 0 ≤ u1 ∧ u1 < 70) (hi : 0 ≤ i0 ∧ i0 + 1 + rN w1 ≤ 900) (h1 : IA μ t.toNat i0.toNat k v w1) (hw1 : iWF k v w1) (hq : rowQ q) (hrow : rowIs μ q wb pb) (hR : RA μ u1.toNat wb pb.toNat) (hpb : 0 ≤ pb ∧ pb + rN wb ≤ 900) (hwb : rWF wb) (h260 : rI wb ≤ 260) (hf9 : 0 ≤ f9 ∧ f9 ≤ rI wb) (hd : rH w1 ≤ 20) (ho : -1 ≤ o1 ∧ o1 < 70 ∧ o1 ≠ t ∧ o1 ≠ u1) (hnx : nxt w1 (rdrop f9.toNat wb)) (hcap : 0 ≤ o1 → 0 ≤ μ 719 o1.toNat ∧ μ 719 o1.toNat + 1 + rN w1 ≤ 900) : Met l yX10_fusesRow (Cond.code yX10_fusesRow cX10_fusesRow 11 (some .int) :: wsG) ({ frames := 24, cells := 0, slots := 0, locals := 740 } : Room) (va_Pc [.ref h0, .int (iZ (t)), .int (iZ (i0)), .int (iZ (u1)), .ref (h0 + q), .int (iZ (f9)), .int (iZ (o1))] (fun U => U.heap.size = sz ∧ va_P (dC, dI) vwCl (fw (mE cI cZ cII cIII h0) h0 6325 μ) U.heap ∧ va_K (dC, dI) vwCl (mT cI cZ cII cIII) U)) (va_Qi (fun (r9 : Int32) (u : va_M × Int) => r9 = iZ u.2 ∧ (fun (u : va_M) (r : Int) => (o1 = -1 → u = μ) ∧ (0 ≤ o1 → fr (PG o1.toNat (μ 719 o1.toNat).toNat) μ u ∧ u 719 o1.toNat = μ 719 o1.toNat + 1 + rN w1 ∧ IA u o1.toNat (μ 719 o1.toNat).toNat k (-1) (rfus w1 (rdrop f9.toNat wb))) ∧ r = rfC w1 (rdrop f9.toNat wb)) u.1 u.2) (fun u t => va_P (dC, dI) vwCl (fw (mE cI cZ cII cIII h0) h0 6325 u.1) t.heap ∧ va_K (dC, dI) vwCl (mT cI cZ cII cIII) t) (fA h0 6325 sz)) 0 0 (fA h0 6325 sz) := by
  refine Met.ofW (cc := cX10_fusesRow) (maxL := 11) (ret := (some .int)) (by decide) rfl ?_
  intro p e s m args below meth c s₁ B hml hv
  obtain ⟨rfl, hsz, hP, hK⟩ := hv
  have hx := B.exec
  have hb := B.bytes
  have hr := B.returns
  have hts : ∀ w ∈ wsG, w.before _ s = true := hG_of (atoms_spec (ws := (Cond.code yX10_fusesRow cX10_fusesRow 11 (some .int) :: wsG)) B.pre)
  have hown : s.vm.findClass RX10 = some m.cls := findClass_of_methodNamed B.named
  have hlocks := B.notSynchronized
  subst hsz
  have hS : va_S (fA h0 6325 s.heap.size) s.heap s.heap [] := va_S.rf
  have hl := lv_entry ([.ref h0, .int (iZ (t)), .int (iZ (i0)), .int (iZ (u1)), .ref (h0 + q), .int (iZ (f9)), .int (iZ (o1))]) (n := 11) (Nat.le_of_ble_eq_true rfl)
  rw [lg_entry_eq]
  generalize (lg_sl ([.ref h0, .int (iZ (t)), .int (iZ (i0)), .int (iZ (u1)), .ref (h0 + q), .int (iZ (f9)), .int (iZ (o1))]) ++ List.replicate (11 - (lg_sl ([.ref h0, .int (iZ (t)), .int (iZ (i0)), .int (iZ (u1)), .ref (h0 + q), .int (iZ (f9)), .int (iZ (o1))])).length) Slot.unset).toArray = ls at hl ⊢
  have hl : lv_has ls 11 [(0, .ref h0), (1, .int (iZ (t))), (2, .int (iZ (i0))), (3, .int (iZ (u1))), (4, .ref (h0 + q)), (5, .int (iZ (f9))), (6, .int (iZ (o1)))] := hl
  have hcI := nxt_I _ _ hnx
  rw [rdrop_I] at hcI
  have hNw := rI_N2 w1
  have hkk := hw1.1
  refine lv_aload_n hx hb dX10_fusesRow_0 rfl (lv_at hl 0 rfl) ?_
  refine lv_iload hx hb dX10_fusesRow_1 (lv_at hl 6 rfl) ?_
  refine lv_aload_n hx hb dX10_fusesRow_3 rfl (lv_at hl 0 rfl) ?_
  refine fz_get (D := (dC, dI)) (ci := 10) (v := .ref (h0 + 506)) (C := RX10) (T := TX10) (N := 53) hx hb hts inG10 hown hK hP (k := 0) (by decide) (F := mF h0) mE_obj rfl 18 (by decide) (hts _ k1184) (fun _ h9 => h9) rfl dX10_fusesRow_4 ?_
  refine lv_iload_n hx hb dX10_fusesRow_7 rfl (lv_at hl 1 rfl) ?_
  refine fz_ald (k := 506) (n := 70) (k2 := (507 + (t).toNat)) hx hb hK hP 2 rfl (by decide) mE_sort rfl ⟨by omega, by omega⟩ (by decide) (if_pos (by omega)) dX10_fusesRow_8 ?_
  refine lv_iload_n hx hb dX10_fusesRow_9 rfl (lv_at hl 2 rfl) ?_
  refine fz_ld (k := (507 + (t).toNat)) (n := 900) hx hb hK hP 0 (by omega) (mE_sortR (by omega)) rfl ⟨by omega, by omega⟩ (by decide) dX10_fusesRow_10 ?_
  rw [show μ (507 + (t).toNat) (i0).toNat = (k : Int) from (by exact h1.1)]
  refine lv_iconst (v := iZ (-1)) hx hb dX10_fusesRow_11 rfl ?_
  refine va_calli (va_runV (As := [.int (iZ (o1)), .int (iZ ((k : Int))), .int (iZ ((-1)))]) (rest := []) ⟨hx, hb, hml, hown, hts⟩ (m_adds l dC dI cI cZ cII cIII h0 s.heap.size μ (o1) ((k : Int)) ((-1)) (by first | assumption | omega | exact ⟨by omega, by omega⟩) (by intro h; have h9 := hcap h; omega)) (cwV 3 hts (gV_G k1377 k1379 ks_yX10_adds k13 k1380) rfl rfl rfl (by decide +kernel) ⟨Nat.le_of_ble_eq_true rfl, Nat.le_of_ble_eq_true rfl⟩) ⟨fun a U g mk q => by obtain ⟨q0, q1, qP, qK⟩ := q; exact ⟨q0, q1, qP, va_K.moved (u := U) (U := U.calling g mk a) (Vm.Alike.refl U.vm) qK⟩, va_recv hK hP (ci := 10) (q0 := 0) rfl ((fw_get (by decide)).trans (by rw [mE_obj]; rfl)), fun U hU hW => ⟨rfl, by rw [hU], by rw [hU]; exact hP, va_K.moved hW.alike hK⟩⟩ rfl rfl hl.1 rfl (lv_room (Nat.le_of_ble_eq_true rfl)) dX10_fusesRow_12 ⟨Nat.le_of_ble_eq_true rfl, Nat.le_of_ble_eq_true rfl⟩) hS (fun q _ h => fA_le hS.1 q h) (fA_le hS.1) (fun r9 u9 t9 H1 locs ht9 hvm9 hw9 hB9 hz9 hk9 hS => ?_)
  obtain ⟨μc, yc⟩ := u9
  obtain ⟨hP, -⟩ := hB9
  rw [ht9] at hP
  generalize H1 = H at hP hS ⊢
  obtain ⟨e9, hw9⟩ := hw9
  have e9 : r9 = iZ yc := e9
  subst e9
  simp only at hP hw9
  have hμc := hw9; clear hw9
  have kt : ∀ x, μc (507 + t.toNat) x = μ (507 + t.toNat) x ∧ μc (578 + t.toNat) x = μ (578 + t.toNat) x ∧ μc (649 + t.toNat) x = μ (649 + t.toNat) x := fun x => by
    by_cases h9 : o1 = -1
    · rw [(hμc.1 h9).1]; exact ⟨rfl, rfl, rfl⟩
    · rw [(hμc.2 (by omega)).1]; exact ⟨by rw [uz_n (by omega), uz_n (by omega), uz_n (by omega), uz_n (by omega)], by rw [uz_n (by omega), uz_n (by omega), uz_n (by omega), uz_n (by omega)], by rw [uz_n (by omega), uz_n (by omega), uz_n (by omega), uz_n (by omega)]⟩
  have ku : ∀ x, μc (507 + u1.toNat) x = μ (507 + u1.toNat) x ∧ μc (578 + u1.toNat) x = μ (578 + u1.toNat) x ∧ μc (649 + u1.toNat) x = μ (649 + u1.toNat) x := fun x => by
    by_cases h9 : o1 = -1
    · rw [(hμc.1 h9).1]; exact ⟨rfl, rfl, rfl⟩
    · rw [(hμc.2 (by omega)).1]; exact ⟨by rw [uz_n (by omega), uz_n (by omega), uz_n (by omega), uz_n (by omega)], by rw [uz_n (by omega), uz_n (by omega), uz_n (by omega), uz_n (by omega)], by rw [uz_n (by omega), uz_n (by omega), uz_n (by omega), uz_n (by omega)]⟩
  have kq : ∀ x, μc q x = μ q x := fun x => by
    have hq7 := hq
    unfold rowQ at hq7
    by_cases h9 : o1 = -1
    · rw [(hμc.1 h9).1]
    · rw [(hμc.2 (by omega)).1, uz_n (by omega), uz_n (by omega), uz_n (by omega), uz_n (by omega)]
  refine lv_istore (lv' := [(7, .int (iZ (yc))), (0, .ref h0), (1, .int (iZ (t))), (2, .int (iZ (i0))), (3, .int (iZ (u1))), (4, .ref (h0 + q)), (5, .int (iZ (f9))), (6, .int (iZ (o1)))]) hx hb dX10_fusesRow_15 hl (by decide) rfl (fun ls hl => ?_)
  refine lv_iconst (v := iZ 0) hx hb dX10_fusesRow_17 rfl ?_
  refine lv_istore (lv' := [(8, .int (iZ (0))), (7, .int (iZ (yc))), (0, .ref h0), (1, .int (iZ (t))), (2, .int (iZ (i0))), (3, .int (iZ (u1))), (4, .ref (h0 + q)), (5, .int (iZ (f9))), (6, .int (iZ (o1)))]) hx hb dX10_fusesRow_18 hl (by decide) rfl (fun ls hl => ?_)
  refine lv_iload hx hb dX10_fusesRow_20 (lv_at hl 7 rfl) ?_
  refine lv_istore (lv' := [(9, .int (iZ (f9))), (8, .int (iZ (0))), (7, .int (iZ (yc))), (0, .ref h0), (1, .int (iZ (t))), (2, .int (iZ (i0))), (3, .int (iZ (u1))), (4, .ref (h0 + q)), (5, .int (iZ (f9))), (6, .int (iZ (o1)))]) hx hb dX10_fusesRow_22 hl (by decide) rfl (fun ls hl => ?_)
  refine lv_iload_n hx hb dX10_fusesRow_24 rfl (lv_at hl 5 rfl) ?_
  refine lv_iconst (v := iZ 1) hx hb dX10_fusesRow_25 rfl ?_
  refine lv_iadd hx hb dX10_fusesRow_26 ?_
  refine lv_topi (fun x9 ex9 => ?_)
  obtain rfl : x9 = iZ (i0 + 1) := ex9.trans (iZ_add _ _)
  refine lv_istore (lv' := [(10, .int (iZ (i0 + 1))), (9, .int (iZ (f9))), (8, .int (iZ (0))), (7, .int (iZ (yc))), (0, .ref h0), (1, .int (iZ (t))), (2, .int (iZ (i0))), (3, .int (iZ (u1))), (4, .ref (h0 + q)), (5, .int (iZ (f9))), (6, .int (iZ (o1)))]) hx hb dX10_fusesRow_27 hl (by decide) rfl (fun ls hl => ?_)
  refine LX10_fusesRow_29 hx hb hml hown hts hK (Nat.le_of_ble_eq_true rfl) (Nat.le_of_ble_eq_true rfl) (Nat.le_of_ble_eq_true rfl) (Nat.le_of_ble_eq_true rfl) (μc) (t) (i0) (u1) (q) (f9) (o1) (k) (v) (w1) (wb) (pb) (yc) (μ 719 o1.toNat + 1) (by assumption) (by assumption) (by assumption) (by exact ⟨(kt _).1.trans h1.1, (kt _).2.1.trans h1.2.1, (kt _).2.2.trans h1.2.2.1, RA_kept h1.2.2.2 (fun x _ _ => kt x)⟩) (by assumption) (by assumption) (by intro m hm; rw [kq]; exact hrow m hm) (by exact RA_kept hR (fun x _ _ => ku x)) (by assumption) (by assumption) (by assumption) (by assumption) (by assumption) (by assumption) (by assumption) (by intro h; have h9 := hcap h; omega) ?_ _ (i0 + 1) (f9) (0) (w1) μc H locs ls (by
            refine ⟨fun _ => rfl, fun h => ?_⟩
            obtain ⟨e1, e2⟩ := hμc.2 h
            exact ⟨fr_rfl, by rw [e1, uz_s]; omega, fun u8 _ hr8 => by
              rw [e1, uz_s] at hr8
              exact hr8⟩) (by
            rw [show (i0 + 1).toNat = i0.toNat + 1 by omega]
            exact RA_kept h1.2.2.2 (fun x _ _ => kt x)) (by omega) (by omega) (by exact hnx) (by exact hw1.2.2.2.2.2.2) (by exact hd) (by exact ⟨by omega, by omega⟩) (Nat.lt_succ_self _) hP hS (lv_sub hl [0, 1, 2, 3, 10, 9, 8, 7, 6, 5, 4] rfl)
  · intro i_1 j_1 x_1 w_1 μ1_ H locs ls q1_1 q2_1 hP hS hl
    have hl : lv_has ls 11 [(8, .int (iZ (x_1))), (7, .int (iZ (yc))), (6, .int (iZ (o1))), (5, .int (iZ (f9))), (4, .ref (h0 + q)), (3, .int (iZ (u1))), (2, .int (iZ (i0))), (1, .int (iZ (t))), (0, .ref h0)] := hl
    refine lv_aload_n hx hb dX10_fusesRow_84 rfl (lv_at hl 8 rfl) ?_
    refine lv_iload hx hb dX10_fusesRow_85 (lv_at hl 2 rfl) ?_
    refine lv_iload hx hb dX10_fusesRow_87 (lv_at hl 1 rfl) ?_
    refine va_callv (va_runV (As := [.int (iZ (o1)), .int (iZ (yc))]) (rest := []) ⟨hx, hb, hml, hown, hts⟩ (m_closes l dC dI cI cZ cII cIII h0 H.size μ1_ (o1) (yc) (by first | assumption | omega | exact ⟨by omega, by omega⟩) (by intro h; have h9 := hcap h; have h8 := (hμc.2 h).2; omega)) (cwV 2 hts (gV_G k1420 k1422 ks_yX10_closes k13 k1423) rfl rfl rfl (by decide +kernel) ⟨Nat.le_of_ble_eq_true rfl, Nat.le_of_ble_eq_true rfl⟩) ⟨fun a U g mk q => by obtain ⟨q0, q1, qP, qK⟩ := q; exact ⟨q0, q1, qP, va_K.moved (u := U) (U := U.calling g mk a) (Vm.Alike.refl U.vm) qK⟩, va_recv hK hP (ci := 10) (q0 := 0) rfl ((fw_get (by decide)).trans (by rw [mE_obj]; rfl)), fun U hU hW => ⟨rfl, by rw [hU], by rw [hU]; exact hP, va_K.moved hW.alike hK⟩⟩ rfl rfl hl.1 rfl (lv_room (Nat.le_of_ble_eq_true rfl)) dX10_fusesRow_89 ⟨Nat.le_of_ble_eq_true rfl, Nat.le_of_ble_eq_true rfl⟩) hS (fun q _ h => fA_le hS.1 q h) (fA_le hS.1) (fun u9 t9 H1 locs ht9 hvm9 hw9 hB9 hz9 hk9 hS => ?_)
    obtain ⟨hP, -⟩ := hB9
    rw [ht9] at hP
    generalize H1 = H at hP hS ⊢
    obtain ⟨μ2, eμ2⟩ : ∃ x : va_M, x = u9 := ⟨_, rfl⟩
    rw [← eμ2] at hP hw9
    have hμ2 := hw9; clear hw9
    refine lv_iload hx hb dX10_fusesRow_92 (lv_at hl 0 rfl) ?_
    exact W.iret (v := iZ (x_1)) hx hb hr (fun t9 ht9 hW9 => ⟨⟨iZ (x_1), (μ2, x_1), rfl, ⟨rfl, (by
                dsimp only
                refine ⟨fun h => ?_, fun h => ?_, ?_⟩
                · rw [hμ2.1 h, (q1_1).1 h, (hμc.1 h).1]
                · obtain ⟨e1, e2⟩ := hμc.2 h
                  obtain ⟨m1, m2, m3⟩ := (q1_1).2 h
                  have hn9 := hcap h
                  rw [hμ2.2 h, e2]
                  have hfr9 : fr (PG o1.toNat (μ 719 o1.toNat).toNat) μ μ1_ := fr_trans (by rw [e1]; exact fr_uz (fr_uz (fr_uz (fr_uz fr_rfl (by unfold PG; omega)) (by unfold PG; omega)) (by unfold PG; omega)) (by unfold PG; omega)) (fr_mono m1 (fun a b hp => by unfold PG at hp ⊢; omega))
                  refine ⟨fr_uz hfr9 (by unfold PG; omega), by rw [uz_n (by omega)]; omega, ?_, ?_, ?_, ?_⟩
                  · rw [uz_n (by omega), m1 _ _ (by unfold PG; omega), e1, uz_n (by omega), uz_n (by omega), uz_n (by omega), uz_s]
                  · rw [uz_n (by omega), m1 _ _ (by unfold PG; omega), e1, uz_n (by omega), uz_n (by omega), uz_s]
                  · rw [uz_s, m2, nx_N hw1.2.2.2.2.2.2 (rdrop_WF _ _ hwb) hnx]; omega
                  · rw [show (μ 719 o1.toNat).toNat + 1 = (μ 719 o1.toNat + 1).toNat by omega]
                    exact RA_kept m3 (fun x hx1 _ => ⟨uz_n (by omega), uz_n (by omega), uz_n (by omega)⟩)
                · exact q2_1)⟩, by rw [ht9]; exact hP, va_K.moved hW9.alike hK⟩, hS.F ht9⟩) hS.2.2 dX10_fusesRow_94

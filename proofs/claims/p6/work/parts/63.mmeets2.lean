theorem k1199 : (Cond.fieldLink "PageSkeletonModel" (264 : Nat) "PageSkeletonModel" "isOfOptions" "Z") ∈ wsG := wsG_at 1199 (by decide +kernel) (by decide +kernel)
theorem k1543 : (Cond.methodLink "PageSkeletonModel" (260 : Nat) ({ cls := "PageSkeletonModel", name := "laysRow", desc := "(IIIIIIII)I" } : MethodName)) ∈ wsG := wsG_at 1543 (by decide +kernel) (by decide +kernel)
theorem k1545 : (Cond.instanceMethod ({ cls := "PageSkeletonModel", name := "laysRow", desc := "(IIIIIIII)I" } : MethodName)) ∈ wsG := wsG_at 1545 (by decide +kernel) (by decide +kernel)
theorem k1546 : (Cond.code ({ cls := "PageSkeletonModel", name := "laysRow", desc := "(IIIIIIII)I" } : MethodName) prog_12_method_38_code (13 : Nat) (Option.some FieldType.int)) ∈ wsG := wsG_at 1546 (by decide +kernel) (by decide +kernel)
theorem ks_yX10_laysRow : Cond.selects RX10 yX10_laysRow yX10_laysRow ∈ wsG := wsG_mem (by decide +kernel) (by decide +kernel)
theorem dX10_meets_0 : decode cX10_meets 0 = .ok (.aload_n 0, 1) := by decide +kernel
theorem dX10_meets_1 : decode cX10_meets 1 = .ok (.getfield 76, 3) := by decide +kernel
theorem dX10_meets_4 : decode cX10_meets 4 = .ok (.iload_n 1, 1) := by decide +kernel
theorem dX10_meets_5 : decode cX10_meets 5 = .ok (.iaload, 1) := by decide +kernel
theorem dX10_meets_6 : decode cX10_meets 6 = .ok (.istore 5, 2) := by decide +kernel
theorem dX10_meets_8 : decode cX10_meets 8 = .ok (.aload_n 0, 1) := by decide +kernel
theorem dX10_meets_9 : decode cX10_meets 9 = .ok (.getfield 79, 3) := by decide +kernel
theorem dX10_meets_12 : decode cX10_meets 12 = .ok (.iload_n 1, 1) := by decide +kernel
theorem dX10_meets_13 : decode cX10_meets 13 = .ok (.iaload, 1) := by decide +kernel
theorem dX10_meets_14 : decode cX10_meets 14 = .ok (.istore 6, 2) := by decide +kernel
theorem dX10_meets_16 : decode cX10_meets 16 = .ok (.aload_n 0, 1) := by decide +kernel
theorem dX10_meets_17 : decode cX10_meets 17 = .ok (.getfield 45, 3) := by decide +kernel
theorem dX10_meets_20 : decode cX10_meets 20 = .ok (.iload 5, 2) := by decide +kernel
theorem dX10_meets_22 : decode cX10_meets 22 = .ok (.aaload, 1) := by decide +kernel
theorem dX10_meets_23 : decode cX10_meets 23 = .ok (.iload_n 2, 1) := by decide +kernel
theorem dX10_meets_24 : decode cX10_meets 24 = .ok (.iaload, 1) := by decide +kernel
theorem dX10_meets_25 : decode cX10_meets 25 = .ok (.istore 7, 2) := by decide +kernel
theorem dX10_meets_27 : decode cX10_meets 27 = .ok (.iload 7, 2) := by decide +kernel
theorem dX10_meets_29 : decode cX10_meets 29 = .ok (.iconst 3, 1) := by decide +kernel
theorem dX10_meets_30 : decode cX10_meets 30 = .ok (.if_icmp .ge 34, 3) := by decide +kernel
theorem dX10_meets_33 : decode cX10_meets 33 = .ok (.aload_n 0, 1) := by decide +kernel
theorem dX10_meets_34 : decode cX10_meets 34 = .ok (.iload 5, 2) := by decide +kernel
theorem dX10_meets_36 : decode cX10_meets 36 = .ok (.iload_n 2, 1) := by decide +kernel
theorem dX10_meets_37 : decode cX10_meets 37 = .ok (.iload 6, 2) := by decide +kernel
theorem dX10_meets_39 : decode cX10_meets 39 = .ok (.iload_n 3, 1) := by decide +kernel
theorem dX10_meets_40 : decode cX10_meets 40 = .ok (.invokevirtual 211, 3) := by decide +kernel
theorem dX10_meets_43 : decode cX10_meets 43 = .ok (.ifCond .eq 18, 3) := by decide +kernel
theorem dX10_meets_46 : decode cX10_meets 46 = .ok (.aload_n 0, 1) := by decide +kernel
theorem dX10_meets_47 : decode cX10_meets 47 = .ok (.iload 5, 2) := by decide +kernel
theorem dX10_meets_49 : decode cX10_meets 49 = .ok (.iload_n 2, 1) := by decide +kernel
theorem dX10_meets_50 : decode cX10_meets 50 = .ok (.iload 6, 2) := by decide +kernel
theorem dX10_meets_52 : decode cX10_meets 52 = .ok (.iload_n 3, 1) := by decide +kernel
theorem dX10_meets_53 : decode cX10_meets 53 = .ok (.iload 4, 2) := by decide +kernel
theorem dX10_meets_55 : decode cX10_meets 55 = .ok (.invokevirtual 215, 3) := by decide +kernel
theorem dX10_meets_58 : decode cX10_meets 58 = .ok (.goto 5, 3) := by decide +kernel
theorem dX10_meets_61 : decode cX10_meets 61 = .ok (.ldc 247, 2) := by decide +kernel
theorem dX10_meets_63 : decode cX10_meets 63 = .ok (.ireturn, 1) := by decide +kernel
theorem dX10_meets_64 : decode cX10_meets 64 = .ok (.iload 7, 2) := by decide +kernel
theorem dX10_meets_66 : decode cX10_meets 66 = .ok (.iconst 4, 1) := by decide +kernel
theorem dX10_meets_67 : decode cX10_meets 67 = .ok (.if_icmp .ne 16, 3) := by decide +kernel
theorem dX10_meets_70 : decode cX10_meets 70 = .ok (.aload_n 0, 1) := by decide +kernel
theorem dX10_meets_71 : decode cX10_meets 71 = .ok (.getfield 45, 3) := by decide +kernel
theorem dX10_meets_74 : decode cX10_meets 74 = .ok (.iload 6, 2) := by decide +kernel
theorem dX10_meets_76 : decode cX10_meets 76 = .ok (.aaload, 1) := by decide +kernel
theorem dX10_meets_77 : decode cX10_meets 77 = .ok (.iload_n 3, 1) := by decide +kernel
theorem dX10_meets_78 : decode cX10_meets 78 = .ok (.iaload, 1) := by decide +kernel
theorem dX10_meets_79 : decode cX10_meets 79 = .ok (.iconst 4, 1) := by decide +kernel
theorem dX10_meets_80 : decode cX10_meets 80 = .ok (.if_icmp .eq 6, 3) := by decide +kernel
theorem dX10_meets_83 : decode cX10_meets 83 = .ok (.ldc 247, 2) := by decide +kernel
theorem dX10_meets_85 : decode cX10_meets 85 = .ok (.ireturn, 1) := by decide +kernel
theorem dX10_meets_86 : decode cX10_meets 86 = .ok (.aload_n 0, 1) := by decide +kernel
theorem dX10_meets_87 : decode cX10_meets 87 = .ok (.iload 4, 2) := by decide +kernel
theorem dX10_meets_89 : decode cX10_meets 89 = .ok (.iconst 4, 1) := by decide +kernel
theorem dX10_meets_90 : decode cX10_meets 90 = .ok (.iconst (-1), 1) := by decide +kernel
theorem dX10_meets_91 : decode cX10_meets 91 = .ok (.invokevirtual 193, 3) := by decide +kernel
theorem dX10_meets_94 : decode cX10_meets 94 = .ok (.istore 8, 2) := by decide +kernel
theorem dX10_meets_96 : decode cX10_meets 96 = .ok (.aload_n 0, 1) := by decide +kernel
theorem dX10_meets_97 : decode cX10_meets 97 = .ok (.iload_n 1, 1) := by decide +kernel
theorem dX10_meets_98 : decode cX10_meets 98 = .ok (.iconst 1, 1) := by decide +kernel
theorem dX10_meets_99 : decode cX10_meets 99 = .ok (.iadd, 1) := by decide +kernel
theorem dX10_meets_100 : decode cX10_meets 100 = .ok (.iload 5, 2) := by decide +kernel
theorem dX10_meets_102 : decode cX10_meets 102 = .ok (.iload_n 2, 1) := by decide +kernel
theorem dX10_meets_103 : decode cX10_meets 103 = .ok (.iconst 1, 1) := by decide +kernel
theorem dX10_meets_104 : decode cX10_meets 104 = .ok (.iadd, 1) := by decide +kernel
theorem dX10_meets_105 : decode cX10_meets 105 = .ok (.iload_n 2, 1) := by decide +kernel
theorem dX10_meets_106 : decode cX10_meets 106 = .ok (.aload_n 0, 1) := by decide +kernel
theorem dX10_meets_107 : decode cX10_meets 107 = .ok (.getfield 51, 3) := by decide +kernel
theorem dX10_meets_110 : decode cX10_meets 110 = .ok (.iload 5, 2) := by decide +kernel
theorem dX10_meets_112 : decode cX10_meets 112 = .ok (.aaload, 1) := by decide +kernel
theorem dX10_meets_113 : decode cX10_meets 113 = .ok (.iload_n 2, 1) := by decide +kernel
theorem dX10_meets_114 : decode cX10_meets 114 = .ok (.iaload, 1) := by decide +kernel
theorem dX10_meets_115 : decode cX10_meets 115 = .ok (.iadd, 1) := by decide +kernel
theorem dX10_meets_116 : decode cX10_meets 116 = .ok (.iload 6, 2) := by decide +kernel
theorem dX10_meets_118 : decode cX10_meets 118 = .ok (.iload_n 3, 1) := by decide +kernel
theorem dX10_meets_119 : decode cX10_meets 119 = .ok (.iconst 1, 1) := by decide +kernel
theorem dX10_meets_120 : decode cX10_meets 120 = .ok (.iadd, 1) := by decide +kernel
theorem dX10_meets_121 : decode cX10_meets 121 = .ok (.iload_n 3, 1) := by decide +kernel
theorem dX10_meets_122 : decode cX10_meets 122 = .ok (.aload_n 0, 1) := by decide +kernel
theorem dX10_meets_123 : decode cX10_meets 123 = .ok (.getfield 51, 3) := by decide +kernel
theorem dX10_meets_126 : decode cX10_meets 126 = .ok (.iload 6, 2) := by decide +kernel
theorem dX10_meets_128 : decode cX10_meets 128 = .ok (.aaload, 1) := by decide +kernel
theorem dX10_meets_129 : decode cX10_meets 129 = .ok (.iload_n 3, 1) := by decide +kernel
theorem dX10_meets_130 : decode cX10_meets 130 = .ok (.iaload, 1) := by decide +kernel
theorem dX10_meets_131 : decode cX10_meets 131 = .ok (.iadd, 1) := by decide +kernel
theorem dX10_meets_132 : decode cX10_meets 132 = .ok (.iload 4, 2) := by decide +kernel
theorem dX10_meets_134 : decode cX10_meets 134 = .ok (.invokevirtual 260, 3) := by decide +kernel
theorem dX10_meets_137 : decode cX10_meets 137 = .ok (.istore 9, 2) := by decide +kernel
theorem dX10_meets_139 : decode cX10_meets 139 = .ok (.aload_n 0, 1) := by decide +kernel
theorem dX10_meets_140 : decode cX10_meets 140 = .ok (.iload 4, 2) := by decide +kernel
theorem dX10_meets_142 : decode cX10_meets 142 = .ok (.iload 8, 2) := by decide +kernel
theorem dX10_meets_144 : decode cX10_meets 144 = .ok (.invokevirtual 219, 3) := by decide +kernel
theorem dX10_meets_147 : decode cX10_meets 147 = .ok (.aload_n 0, 1) := by decide +kernel
theorem dX10_meets_148 : decode cX10_meets 148 = .ok (.getfield 264, 3) := by decide +kernel
theorem dX10_meets_151 : decode cX10_meets 151 = .ok (.ifCond .eq 8, 3) := by decide +kernel
theorem dX10_meets_154 : decode cX10_meets 154 = .ok (.ldc 247, 2) := by decide +kernel
theorem dX10_meets_156 : decode cX10_meets 156 = .ok (.goto 5, 3) := by decide +kernel
theorem dX10_meets_159 : decode cX10_meets 159 = .ok (.iload 9, 2) := by decide +kernel
theorem dX10_meets_161 : decode cX10_meets 161 = .ok (.ireturn, 1) := by decide +kernel
theorem LO_n {n o n0 x y : Nat} (h : ¬ LD n x y) (h2 : ¬ PG o n0 x y) : ¬ LO n o n0 x y := fun h9 => h9.elim h h2
theorem LD_lt {n x y : Nat} (h : 1 ≤ x ∧ x < 723) : ¬ LD n x y := by unfold LD; omega
set_option maxHeartbeats 40000000 in
set_option maxRecDepth 100000 in
theorem m_meets (l : Launch) (dC : Nat → ClassId) (dI : Nat → Nat → Nat) (cI cZ cII cIII : ClassId) (h0 : Nat) : ∀ (d : Nat), ∀ (sz : Nat) (μ : va_M) (n : Int) (i0 : Int) (j0 : Int) (o1 : Int) (t : Int) (u1 : Int) (k : Nat) (v : Int) (w1 : Rw) (k2 : Nat) (v2 : Int) (w2 : Rw), (∀ (sz : Nat) (μ : va_M) (n : Int) (t : Int) (a1 : Int) (a2 : Int) (u1 : Int) (b1 : Int) (b2 : Int) (o1 : Int) (wS : Rw) (wP : Rw), (0 ≤ n ∧ n + rH wP ≤ 13) → (0 ≤ t ∧ t < 70) → (0 ≤ u1 ∧ u1 < 70) → (0 ≤ a1 ∧ a2 = a1 + rN wS ∧ a2 ≤ 900) → (0 ≤ b1 ∧ b2 = b1 + rN wP ∧ b2 ≤ 900) → (RA μ t.toNat wS a1.toNat) → (RA μ u1.toNat wP b1.toNat) → (rWF wS) → (rWF wP) → (rL wS ≤ 259 ∧ rL wP ≤ 60 ∧ rH wS ≤ 20) → (-1 ≤ o1 ∧ o1 < 70 ∧ o1 ≠ t ∧ o1 ≠ u1) → (capI2 o1 (μ 719 o1.toNat) (rN (lrow wS wP))) → (rH wP < d) → Met l yX10_laysRow (Cond.code yX10_laysRow cX10_laysRow 13 (some .int) :: wsG) ({ frames := 5 * d + 32, cells := 0, slots := 0, locals := 200 * d + 900 } : Room) (va_Pc [.ref h0, .int (iZ (n)), .int (iZ (t)), .int (iZ (a1)), .int (iZ (a2)), .int (iZ (u1)), .int (iZ (b1)), .int (iZ (b2)), .int (iZ (o1))] (fun U => U.heap.size = sz ∧ va_P (dC, dI) vwCl (fw (mE cI cZ cII cIII h0) h0 6325 μ) U.heap ∧ va_K (dC, dI) vwCl (mT cI cZ cII cIII) U)) (va_Qi (fun (r9 : Int32) (u : va_M × Int) => r9 = iZ u.2 ∧ (fun (u : va_M) (r : Int) => r = (lay wS wP).1 ∧ u 0 33 = (if (lay wS wP).2 = true then 1 else 0) ∧ layO μ u n.toNat o1 (lrow wS wP)) u.1 u.2) (fun u t => va_P (dC, dI) vwCl (fw (mE cI cZ cII cIII h0) h0 6325 u.1) t.heap ∧ va_K (dC, dI) vwCl (mT cI cZ cII cIII) t) (fA h0 6325 sz)) 0 0 (fA h0 6325 sz)) → (0 ≤ n ∧ n + 1 + rH w2 ≤ 13) → (μ 4408 n.toNat = t ∧ μ 4409 n.toNat = u1) → (0 ≤ t ∧ t < 70) → (0 ≤ u1 ∧ u1 < 70) → (0 ≤ i0 ∧ i0 + 1 + rN w1 ≤ 900) → (0 ≤ j0 ∧ j0 + 1 + rN w2 ≤ 900) → (IA μ t.toNat i0.toNat k v w1) → (IA μ u1.toNat j0.toNat k2 v2 w2) → (iWF k v w1) → (iWF k2 v2 w2) → (rL w1 ≤ 259 ∧ rL w2 ≤ 60 ∧ rH w1 ≤ 20) → (-1 ≤ o1 ∧ o1 < 70 ∧ o1 ≠ t ∧ o1 ≠ u1) → (capI2 o1 (μ 719 o1.toNat) (rN (mtI k v w1 k2 v2 w2))) → (0 ≤ o1 → mtC k v w1 k2 v2 w2 < 1000000) → (rH w2 < d) → Met l yX10_meets (Cond.code yX10_meets cX10_meets 10 (some .int) :: wsG) ({ frames := 5 * d + 32 + 1, cells := 0, slots := 0, locals := 200 * d + 900 + 40 } : Room) (va_Pc [.ref h0, .int (iZ (n)), .int (iZ (i0)), .int (iZ (j0)), .int (iZ (o1))] (fun U => U.heap.size = sz ∧ va_P (dC, dI) vwCl (fw (mE cI cZ cII cIII h0) h0 6325 μ) U.heap ∧ va_K (dC, dI) vwCl (mT cI cZ cII cIII) U)) (va_Qi (fun (r9 : Int32) (u : va_M × Int) => r9 = iZ u.2 ∧ (fun (u : va_M) (r : Int) => r = mtC k v w1 k2 v2 w2 ∧ layO μ u (n.toNat + 1) o1 (mtI k v w1 k2 v2 w2)) u.1 u.2) (fun u t => va_P (dC, dI) vwCl (fw (mE cI cZ cII cIII h0) h0 6325 u.1) t.heap ∧ va_K (dC, dI) vwCl (mT cI cZ cII cIII) t) (fA h0 6325 sz)) 0 0 (fA h0 6325 sz) := by
  intro d
  induction d using Nat.strongRecOn with
  | _ d ih =>
  intro sz μ n i0 j0 o1 t u1 k v w1 k2 v2 w2 hLR hn h48 ht hu hi hj h1 h2 hw1 hw2 h260 ho hcap hval hd
  refine Met.ofW (cc := cX10_meets) (maxL := 10) (ret := (some .int)) (by decide) rfl ?_
  intro p e s m args below meth c s₁ B hml hv
  obtain ⟨rfl, hsz, hP, hK⟩ := hv
  have hx := B.exec
  have hb := B.bytes
  have hr := B.returns
  have hts : ∀ w ∈ wsG, w.before _ s = true := hG_of (atoms_spec (ws := (Cond.code yX10_meets cX10_meets 10 (some .int) :: wsG)) B.pre)
  have hown : s.vm.findClass RX10 = some m.cls := findClass_of_methodNamed B.named
  have hlocks := B.notSynchronized
  subst hsz
  have hS : va_S (fA h0 6325 s.heap.size) s.heap s.heap [] := va_S.rf
  have hl := lv_entry ([.ref h0, .int (iZ (n)), .int (iZ (i0)), .int (iZ (j0)), .int (iZ (o1))]) (n := 10) (Nat.le_of_ble_eq_true rfl)
  rw [lg_entry_eq]
  generalize (lg_sl ([.ref h0, .int (iZ (n)), .int (iZ (i0)), .int (iZ (j0)), .int (iZ (o1))]) ++ List.replicate (10 - (lg_sl ([.ref h0, .int (iZ (n)), .int (iZ (i0)), .int (iZ (j0)), .int (iZ (o1))])).length) Slot.unset).toArray = ls at hl ⊢
  have hl : lv_has ls 10 [(0, .ref h0), (1, .int (iZ (n))), (2, .int (iZ (i0))), (3, .int (iZ (j0))), (4, .int (iZ (o1)))] := hl
  have hkk := hw1.1
  have hkk2 := hw2.1
  obtain ⟨h481, h482⟩ := h48
  refine lv_aload_n hx hb dX10_meets_0 rfl (lv_at hl 0 rfl) ?_
  refine fz_get (D := (dC, dI)) (ci := 10) (v := .ref (h0 + 4408)) (C := RX10) (T := TX10) (N := 53) hx hb hts inG10 hown hK hP (k := 0) (by decide) (F := mF h0) mE_obj rfl 34 (by decide) (hts _ k1200) (fun _ h9 => h9) rfl dX10_meets_1 ?_
  refine lv_iload_n hx hb dX10_meets_4 rfl (lv_at hl 1 rfl) ?_
  refine fz_ld (k := 4408) (n := 14) hx hb hK hP 0 (by decide) mE_treeS rfl ⟨by omega, by omega⟩ (by decide) dX10_meets_5 ?_
  rw [show μ 4408 (n).toNat = t from (by exact h481)]
  refine lv_istore (lv' := [(5, .int (iZ (t))), (0, .ref h0), (1, .int (iZ (n))), (2, .int (iZ (i0))), (3, .int (iZ (j0))), (4, .int (iZ (o1)))]) hx hb dX10_meets_6 hl (by decide) rfl (fun ls hl => ?_)
  refine lv_aload_n hx hb dX10_meets_8 rfl (lv_at hl 1 rfl) ?_
  refine fz_get (D := (dC, dI)) (ci := 10) (v := .ref (h0 + 4409)) (C := RX10) (T := TX10) (N := 53) hx hb hts inG10 hown hK hP (k := 0) (by decide) (F := mF h0) mE_obj rfl 35 (by decide) (hts _ k1201) (fun _ h9 => h9) rfl dX10_meets_9 ?_
  refine lv_iload_n hx hb dX10_meets_12 rfl (lv_at hl 2 rfl) ?_
  refine fz_ld (k := 4409) (n := 14) hx hb hK hP 0 (by decide) mE_treeP rfl ⟨by omega, by omega⟩ (by decide) dX10_meets_13 ?_
  rw [show μ 4409 (n).toNat = u1 from (by exact h482)]
  refine lv_istore (lv' := [(6, .int (iZ (u1))), (5, .int (iZ (t))), (0, .ref h0), (1, .int (iZ (n))), (2, .int (iZ (i0))), (3, .int (iZ (j0))), (4, .int (iZ (o1)))]) hx hb dX10_meets_14 hl (by decide) rfl (fun ls hl => ?_)
  refine lv_aload_n hx hb dX10_meets_16 rfl (lv_at hl 2 rfl) ?_
  refine fz_get (D := (dC, dI)) (ci := 10) (v := .ref (h0 + 506)) (C := RX10) (T := TX10) (N := 53) hx hb hts inG10 hown hK hP (k := 0) (by decide) (F := mF h0) mE_obj rfl 18 (by decide) (hts _ k1184) (fun _ h9 => h9) rfl dX10_meets_17 ?_
  refine lv_iload hx hb dX10_meets_20 (lv_at hl 1 rfl) ?_
  refine fz_ald (k := 506) (n := 70) (k2 := (507 + (t).toNat)) hx hb hK hP 2 rfl (by decide) mE_sort rfl ⟨by omega, by omega⟩ (by decide) (if_pos (by omega)) dX10_meets_22 ?_
  refine lv_iload_n hx hb dX10_meets_23 rfl (lv_at hl 4 rfl) ?_
  refine fz_ld (k := (507 + (t).toNat)) (n := 900) hx hb hK hP 0 (by omega) (mE_sortR (by omega)) rfl ⟨by omega, by omega⟩ (by decide) dX10_meets_24 ?_
  rw [show μ (507 + (t).toNat) (i0).toNat = (k : Int) from (by exact h1.1)]
  refine lv_istore (lv' := [(7, .int (iZ ((k : Int)))), (6, .int (iZ (u1))), (5, .int (iZ (t))), (0, .ref h0), (1, .int (iZ (n))), (2, .int (iZ (i0))), (3, .int (iZ (j0))), (4, .int (iZ (o1)))]) hx hb dX10_meets_25 hl (by decide) rfl (fun ls hl => ?_)
  refine lv_iload hx hb dX10_meets_27 (lv_at hl 0 rfl) ?_
  refine lv_iconst (v := iZ 3) hx hb dX10_meets_29 rfl ?_
  refine fz_icmp_ge (tgt := 64) (by constructor <;> omega) (by decide) hx hb dX10_meets_30 (by decide) (fun c30_ => ?_) (fun c30_ => ?_)
  · refine lv_iload hx hb dX10_meets_64 (lv_at hl 0 rfl) ?_
    refine lv_iconst (v := iZ 4) hx hb dX10_meets_66 rfl ?_
    refine fz_icmp_ne (tgt := 83) (by constructor <;> omega) (by decide) hx hb dX10_meets_67 (by decide) (fun c67_ => ?_) (fun c67_ => ?_)
    · have hmc : mtC k v w1 k2 v2 w2 = 1000000 := by
        unfold mtC
        rw [if_neg (by omega), if_neg (by omega)]
      refine lv_ldc (v := iZ 1000000) hx hb hown (hts _ k1547) dX10_meets_83 ?_
      exact W.iret (v := iZ (1000000)) hx hb hr (fun t9 ht9 hW9 => ⟨⟨iZ (1000000), (μ, 1000000), rfl, ⟨rfl, (by
                    dsimp only
                    exact ⟨hmc.symm, fun _ => fr_rfl, fun h => absurd (hval h) (by rw [hmc]; omega)⟩)⟩, by rw [ht9]; exact hP, va_K.moved hW9.alike hK⟩, hS.F ht9⟩) hS.2.2 dX10_meets_85
    · refine lv_aload_n hx hb dX10_meets_70 rfl (lv_at hl 3 rfl) ?_
      refine fz_get (D := (dC, dI)) (ci := 10) (v := .ref (h0 + 506)) (C := RX10) (T := TX10) (N := 53) hx hb hts inG10 hown hK hP (k := 0) (by decide) (F := mF h0) mE_obj rfl 18 (by decide) (hts _ k1184) (fun _ h9 => h9) rfl dX10_meets_71 ?_
      refine lv_iload hx hb dX10_meets_74 (lv_at hl 1 rfl) ?_
      refine fz_ald (k := 506) (n := 70) (k2 := (507 + (u1).toNat)) hx hb hK hP 2 rfl (by decide) mE_sort rfl ⟨by omega, by omega⟩ (by decide) (if_pos (by omega)) dX10_meets_76 ?_
      refine lv_iload_n hx hb dX10_meets_77 rfl (lv_at hl 6 rfl) ?_
      refine fz_ld (k := (507 + (u1).toNat)) (n := 900) hx hb hK hP 0 (by omega) (mE_sortR (by omega)) rfl ⟨by omega, by omega⟩ (by decide) dX10_meets_78 ?_
      rw [show μ (507 + (u1).toNat) (j0).toNat = (k2 : Int) from (by exact h2.1)]
      refine lv_iconst (v := iZ 4) hx hb dX10_meets_79 rfl ?_
      refine fz_icmp_eq (tgt := 86) (by constructor <;> omega) (by decide) hx hb dX10_meets_80 (by decide) (fun c80_ => ?_) (fun c80_ => ?_)
      · have hk4 : k = 4 := by omega
        have hk24 : k2 = 4 := by omega
        have hI1 : mtI k v w1 k2 v2 w2 = .inner 0 4 (-1) (lrow w1 w2) .leaf := by unfold mtI; rw [if_neg (by omega)]
        have hN0 : rN (Std.DTreeMap.Internal.Impl.leaf : Rw) = 0 := rfl
        have hNI : rN (mtI k v w1 k2 v2 w2) = 1 + rN (lrow w1 w2) := by rw [hI1, rN_in, hN0, Nat.add_zero]
        rw [hNI] at hcap
        have hmc : mtC k v w1 k2 v2 w2 = (if (lay w1 w2).2 = true then 1000000 else (lay w1 w2).1) := by
          unfold mtC
          rw [if_neg (by omega), if_pos ⟨hk4, hk24⟩]
        refine lv_aload_n hx hb dX10_meets_86 rfl (lv_at hl 3 rfl) ?_
        refine lv_iload hx hb dX10_meets_87 (lv_at hl 7 rfl) ?_
        refine lv_iconst (v := iZ 4) hx hb dX10_meets_89 rfl ?_
        refine lv_iconst (v := iZ (-1)) hx hb dX10_meets_90 rfl ?_
        refine va_calli (va_runV (As := [.int (iZ (o1)), .int (iZ (4)), .int (iZ ((-1)))]) (rest := []) ⟨hx, hb, hml, hown, hts⟩ (m_adds l dC dI cI cZ cII cIII h0 s.heap.size μ (o1) (4) ((-1)) (by first | assumption | omega | exact ⟨by omega, by omega⟩) (by intro h; have h9 := hcap h; omega)) (cwV 3 hts (gV_G k1377 k1379 ks_yX10_adds k13 k1380) rfl rfl rfl (by decide +kernel) ⟨by show 1 + 1 ≤ 5 * d + 32 + 1; omega, by show 8 + (5 + 11) + (14) ≤ 200 * d + 900 + 40; omega⟩) ⟨fun a U g mk q => by obtain ⟨q0, q1, qP, qK⟩ := q; exact ⟨q0, q1, qP, va_K.moved (u := U) (U := U.calling g mk a) (Vm.Alike.refl U.vm) qK⟩, va_recv hK hP (ci := 10) (q0 := 0) rfl ((fw_get (by decide)).trans (by rw [mE_obj]; rfl)), fun U hU hW => ⟨rfl, by rw [hU], by rw [hU]; exact hP, va_K.moved hW.alike hK⟩⟩ rfl rfl hl.1 rfl (lv_room (Nat.le_of_ble_eq_true rfl)) dX10_meets_91 ⟨Nat.le_of_ble_eq_true rfl, Nat.le_of_ble_eq_true rfl⟩) hS (fun q _ h => fA_le hS.1 q h) (fA_le hS.1) (fun r9 u9 t9 H1 locs ht9 hvm9 hw9 hB9 hz9 hk9 hS => ?_)
        obtain ⟨μc, yc⟩ := u9
        obtain ⟨hP, -⟩ := hB9
        rw [ht9] at hP
        generalize H1 = H at hP hS ⊢
        obtain ⟨e9, hw9⟩ := hw9
        have e9 : r9 = iZ yc := e9
        subst e9
        simp only at hP hw9
        have hμc := hw9; clear hw9
        have kt : ∀ x, μc (507 + t.toNat) x = μ (507 + t.toNat) x ∧ μc (578 + t.toNat) x = μ (578 + t.toNat) x ∧ μc (649 + t.toNat) x = μ (649 + t.toNat) x := fun x => by
          by_cases h9 : o1 = -1
          · rw [(hμc.1 h9).1]; exact ⟨rfl, rfl, rfl⟩
          · rw [(hμc.2 (by omega)).1]; exact ⟨by rw [uz_n (by omega), uz_n (by omega), uz_n (by omega), uz_n (by omega)], by rw [uz_n (by omega), uz_n (by omega), uz_n (by omega), uz_n (by omega)], by rw [uz_n (by omega), uz_n (by omega), uz_n (by omega), uz_n (by omega)]⟩
        have ku : ∀ x, μc (507 + u1.toNat) x = μ (507 + u1.toNat) x ∧ μc (578 + u1.toNat) x = μ (578 + u1.toNat) x ∧ μc (649 + u1.toNat) x = μ (649 + u1.toNat) x := fun x => by
          by_cases h9 : o1 = -1
          · rw [(hμc.1 h9).1]; exact ⟨rfl, rfl, rfl⟩
          · rw [(hμc.2 (by omega)).1]; exact ⟨by rw [uz_n (by omega), uz_n (by omega), uz_n (by omega), uz_n (by omega)], by rw [uz_n (by omega), uz_n (by omega), uz_n (by omega), uz_n (by omega)], by rw [uz_n (by omega), uz_n (by omega), uz_n (by omega), uz_n (by omega)]⟩
        refine lv_istore (lv' := [(8, .int (iZ (yc))), (7, .int (iZ ((k : Int)))), (6, .int (iZ (u1))), (5, .int (iZ (t))), (0, .ref h0), (1, .int (iZ (n))), (2, .int (iZ (i0))), (3, .int (iZ (j0))), (4, .int (iZ (o1)))]) hx hb dX10_meets_94 hl (by decide) rfl (fun ls hl => ?_)
        refine lv_aload_n hx hb dX10_meets_96 rfl (lv_at hl 4 rfl) ?_
        refine lv_iload_n hx hb dX10_meets_97 rfl (lv_at hl 5 rfl) ?_
        refine lv_iconst (v := iZ 1) hx hb dX10_meets_98 rfl ?_
        refine lv_iadd hx hb dX10_meets_99 ?_
        refine lv_topi (fun x9 ex9 => ?_)
        obtain rfl : x9 = iZ (n + 1) := ex9.trans (iZ_add _ _)
        refine lv_iload hx hb dX10_meets_100 (lv_at hl 3 rfl) ?_
        refine lv_iload_n hx hb dX10_meets_102 rfl (lv_at hl 6 rfl) ?_
        refine lv_iconst (v := iZ 1) hx hb dX10_meets_103 rfl ?_
        refine lv_iadd hx hb dX10_meets_104 ?_
        refine lv_topi (fun x9 ex9 => ?_)
        obtain rfl : x9 = iZ (i0 + 1) := ex9.trans (iZ_add _ _)
        refine lv_iload_n hx hb dX10_meets_105 rfl (lv_at hl 6 rfl) ?_
        refine lv_aload_n hx hb dX10_meets_106 rfl (lv_at hl 4 rfl) ?_
        refine fz_get (D := (dC, dI)) (ci := 10) (v := .ref (h0 + 648)) (C := RX10) (T := TX10) (N := 53) hx hb hts inG10 hown hK hP (k := 0) (by decide) (F := mF h0) mE_obj rfl 20 (by decide) (hts _ k1186) (fun _ h9 => h9) rfl dX10_meets_107 ?_
        refine lv_iload hx hb dX10_meets_110 (lv_at hl 3 rfl) ?_
        refine fz_ald (k := 648) (n := 70) (k2 := (649 + (t).toNat)) hx hb hK hP 2 rfl (by decide) mE_span rfl ⟨by omega, by omega⟩ (by decide) (if_pos (by omega)) dX10_meets_112 ?_
        refine lv_iload_n hx hb dX10_meets_113 rfl (lv_at hl 6 rfl) ?_
        refine fz_ld (k := (649 + (t).toNat)) (n := 900) hx hb hK hP 0 (by omega) (mE_spanR (by omega)) rfl ⟨by omega, by omega⟩ (by decide) dX10_meets_114 ?_
        rw [show μc (649 + (t).toNat) (i0).toNat = 1 + (rN w1 : Int) from (by rw [(kt _).2.2]; exact h1.2.2.1)]
        refine lv_iadd hx hb dX10_meets_115 ?_
        refine lv_topi (fun x9 ex9 => ?_)
        obtain rfl : x9 = iZ (i0 + (1 + (rN w1 : Int))) := ex9.trans (iZ_add _ _)
        refine lv_iload hx hb dX10_meets_116 (lv_at hl 2 rfl) ?_
        refine lv_iload_n hx hb dX10_meets_118 rfl (lv_at hl 7 rfl) ?_
        refine lv_iconst (v := iZ 1) hx hb dX10_meets_119 rfl ?_
        refine lv_iadd hx hb dX10_meets_120 ?_
        refine lv_topi (fun x9 ex9 => ?_)
        obtain rfl : x9 = iZ (j0 + 1) := ex9.trans (iZ_add _ _)
        refine lv_iload_n hx hb dX10_meets_121 rfl (lv_at hl 7 rfl) ?_
        refine lv_aload_n hx hb dX10_meets_122 rfl (lv_at hl 4 rfl) ?_
        refine fz_get (D := (dC, dI)) (ci := 10) (v := .ref (h0 + 648)) (C := RX10) (T := TX10) (N := 53) hx hb hts inG10 hown hK hP (k := 0) (by decide) (F := mF h0) mE_obj rfl 20 (by decide) (hts _ k1186) (fun _ h9 => h9) rfl dX10_meets_123 ?_
        refine lv_iload hx hb dX10_meets_126 (lv_at hl 2 rfl) ?_
        refine fz_ald (k := 648) (n := 70) (k2 := (649 + (u1).toNat)) hx hb hK hP 2 rfl (by decide) mE_span rfl ⟨by omega, by omega⟩ (by decide) (if_pos (by omega)) dX10_meets_128 ?_
        refine lv_iload_n hx hb dX10_meets_129 rfl (lv_at hl 7 rfl) ?_
        refine fz_ld (k := (649 + (u1).toNat)) (n := 900) hx hb hK hP 0 (by omega) (mE_spanR (by omega)) rfl ⟨by omega, by omega⟩ (by decide) dX10_meets_130 ?_
        rw [show μc (649 + (u1).toNat) (j0).toNat = 1 + (rN w2 : Int) from (by rw [(ku _).2.2]; exact h2.2.2.1)]
        refine lv_iadd hx hb dX10_meets_131 ?_
        refine lv_topi (fun x9 ex9 => ?_)
        obtain rfl : x9 = iZ (j0 + (1 + (rN w2 : Int))) := ex9.trans (iZ_add _ _)
        refine lv_iload hx hb dX10_meets_132 (lv_at hl 8 rfl) ?_
        refine va_calli (va_runV (As := [.int (iZ (n + 1)), .int (iZ (t)), .int (iZ (i0 + 1)), .int (iZ (i0 + (1 + (rN w1 : Int)))), .int (iZ (u1)), .int (iZ (j0 + 1)), .int (iZ (j0 + (1 + (rN w2 : Int)))), .int (iZ (o1))]) (rest := []) ⟨hx, hb, hml, hown, hts⟩ (hLR H.size μc (n + 1) (t) (i0 + 1) (i0 + (1 + (rN w1 : Int))) (u1) (j0 + 1) (j0 + (1 + (rN w2 : Int))) (o1) (w1) (w2) (by omega) (by first | assumption | omega | exact ⟨by omega, by omega⟩) (by first | assumption | omega | exact ⟨by omega, by omega⟩) (by omega) (by omega) (by rw [show (i0 + 1).toNat = i0.toNat + 1 by omega]; exact RA_kept h1.2.2.2 (fun x _ _ => kt x)) (by rw [show (j0 + 1).toNat = j0.toNat + 1 by omega]; exact RA_kept h2.2.2.2 (fun x _ _ => ku x)) (by exact hw1.2.2.2.2.2.2) (by exact hw2.2.2.2.2.2.2) (by first | assumption | omega | exact ⟨by omega, by omega⟩) (by first | assumption | omega | exact ⟨by omega, by omega⟩) (by intro h; have h9 := hcap h; rw [(hμc.2 h).1, uz_s]; omega) (by exact hd)) (cwV 8 hts (gV_G k1543 k1545 ks_yX10_laysRow k13 k1546) rfl rfl rfl (by decide +kernel) ⟨by show 5 * d + 32 + 1 ≤ 5 * d + 32 + 1; omega, by show 8 + (13 + 11) + (200 * d + 900) ≤ 200 * d + 900 + 40; omega⟩) ⟨fun a U g mk q => by obtain ⟨q0, q1, qP, qK⟩ := q; exact ⟨q0, q1, qP, va_K.moved (u := U) (U := U.calling g mk a) (Vm.Alike.refl U.vm) qK⟩, va_recv hK hP (ci := 10) (q0 := 0) rfl ((fw_get (by decide)).trans (by rw [mE_obj]; rfl)), fun U hU hW => ⟨rfl, by rw [hU], by rw [hU]; exact hP, va_K.moved hW.alike hK⟩⟩ rfl rfl hl.1 rfl (lv_room (Nat.le_of_ble_eq_true rfl)) dX10_meets_134 ⟨Nat.le_of_ble_eq_true rfl, Nat.le_of_ble_eq_true rfl⟩) hS (fun q _ h => fA_le hS.1 q h) (fA_le hS.1) (fun r9 u9 t9 H1 locs ht9 hvm9 hw9 hB9 hz9 hk9 hS => ?_)
        obtain ⟨μe, re⟩ := u9
        obtain ⟨hP, -⟩ := hB9
        rw [ht9] at hP
        generalize H1 = H at hP hS ⊢
        obtain ⟨e9, hw9⟩ := hw9
        have e9 : r9 = iZ re := e9
        subst e9
        simp only at hP hw9
        have hμe := hw9; clear hw9
        obtain ⟨z1, z2, z3, z4⟩ := hμe
        have hz01 : μe 0 33 = 0 ∨ μe 0 33 = 1 := by rw [z2]; split <;> omega
        refine lv_istore (lv' := [(9, .int (iZ (re))), (8, .int (iZ (yc))), (7, .int (iZ ((k : Int)))), (6, .int (iZ (u1))), (5, .int (iZ (t))), (0, .ref h0), (1, .int (iZ (n))), (2, .int (iZ (i0))), (3, .int (iZ (j0))), (4, .int (iZ (o1)))]) hx hb dX10_meets_137 hl (by decide) rfl (fun ls hl => ?_)
        refine lv_aload_n hx hb dX10_meets_139 rfl (lv_at hl 5 rfl) ?_
        refine lv_iload hx hb dX10_meets_140 (lv_at hl 9 rfl) ?_
        refine lv_iload hx hb dX10_meets_142 (lv_at hl 1 rfl) ?_
        refine va_callv (va_runV (As := [.int (iZ (o1)), .int (iZ (yc))]) (rest := []) ⟨hx, hb, hml, hown, hts⟩ (m_closes l dC dI cI cZ cII cIII h0 H.size μe (o1) (yc) (by first | assumption | omega | exact ⟨by omega, by omega⟩) (by intro h; have h9 := hcap h; have h8 := (hμc.2 h).2; omega)) (cwV 2 hts (gV_G k1420 k1422 ks_yX10_closes k13 k1423) rfl rfl rfl (by decide +kernel) ⟨by show 1 + 1 ≤ 5 * d + 32 + 1; omega, by show 8 + (3 + 11) + (14) ≤ 200 * d + 900 + 40; omega⟩) ⟨fun a U g mk q => by obtain ⟨q0, q1, qP, qK⟩ := q; exact ⟨q0, q1, qP, va_K.moved (u := U) (U := U.calling g mk a) (Vm.Alike.refl U.vm) qK⟩, va_recv hK hP (ci := 10) (q0 := 0) rfl ((fw_get (by decide)).trans (by rw [mE_obj]; rfl)), fun U hU hW => ⟨rfl, by rw [hU], by rw [hU]; exact hP, va_K.moved hW.alike hK⟩⟩ rfl rfl hl.1 rfl (lv_room (Nat.le_of_ble_eq_true rfl)) dX10_meets_144 ⟨Nat.le_of_ble_eq_true rfl, Nat.le_of_ble_eq_true rfl⟩) hS (fun q _ h => fA_le hS.1 q h) (fA_le hS.1) (fun u9 t9 H1 locs ht9 hvm9 hw9 hB9 hz9 hk9 hS => ?_)
        obtain ⟨hP, -⟩ := hB9
        rw [ht9] at hP
        generalize H1 = H at hP hS ⊢
        obtain ⟨μg, eμg⟩ : ∃ x : va_M, x = u9 := ⟨_, rfl⟩
        rw [← eμg] at hP hw9
        have hμg := hw9; clear hw9
        have g33 : μg 0 33 = μe 0 33 := by
          by_cases h9 : o1 = -1
          · rw [hμg.1 h9]
          · rw [hμg.2 (by omega), uz_n (by omega)]
        refine lv_aload_n hx hb dX10_meets_147 rfl (lv_at hl 5 rfl) ?_
        refine fz_get (D := (dC, dI)) (ci := 10) (v := .int (iZ (μg 0 33))) (C := RX10) (T := TX10) (N := 53) hx hb hts inG10 hown hK hP (k := 0) (by decide) (F := mF h0) mE_obj rfl 33 (by decide) (hts _ k1199) (fun _ h9 => h9) rfl dX10_meets_148 ?_
        rw [show μg 0 33 = μe 0 33 from (by exact g33)]
        refine fz_if_eq (tgt := 159) (by constructor <;> omega) hx hb dX10_meets_151 (by decide) (fun c151_ => ?_) (fun c151_ => ?_)
        · have hof : ¬ (lay w1 w2).2 = true := fun h9 => by rw [if_pos h9] at z2; omega
          rw [if_neg hof] at hmc
          refine lv_iload hx hb dX10_meets_159 (lv_at hl 0 rfl) ?_
          exact W.iret (v := iZ (re)) hx hb hr (fun t9 ht9 hW9 => ⟨⟨iZ (re), (μg, re), rfl, ⟨rfl, (by
                            dsimp only
                            have hlo : layO μ μg (n.toNat + 1) o1 (mtI k v w1 k2 v2 w2) := by
                              have en : (n + 1).toNat = n.toNat + 1 := by omega
                              rw [en] at z3 z4
                              refine ⟨fun h => ?_, fun h => ?_⟩
                              · rw [hμg.1 h, ← (hμc.1 h).1]; exact z3 h
                              · obtain ⟨y1, y2⟩ := hμc.2 h
                                obtain ⟨x1, x2, x3⟩ := z4 h
                                have hn9 := hcap h
                                have yn : μc 719 o1.toNat = μ 719 o1.toNat + 1 := by rw [y1, uz_s]
                                have yf : fr (PG o1.toNat (μ 719 o1.toNat).toNat) μ μc := by rw [y1]; exact fr_uz (fr_uz (fr_uz (fr_uz fr_rfl (by unfold PG; omega)) (by unfold PG; omega)) (by unfold PG; omega)) (by unfold PG; omega)
                                have xf : fr (LO (n.toNat + 1) o1.toNat (μ 719 o1.toNat).toNat) μ μe := fr_trans (fr_mono yf (fun a b h9 => Or.inr h9)) (fr_mono x1 (fun a b h9 => h9.elim Or.inl (fun h8 => Or.inr (by unfold PG at h8 ⊢; omega))))
                                rw [hμg.2 h, y2, hI1]
                                refine ⟨fr_uz xf (Or.inr (by unfold PG; omega)), ?_, ?_, ?_, ?_, ?_, trivial⟩
                                · rw [uz_n (by omega), x2, yn, rN_in, hN0]; omega
                                · rw [uz_n (by omega), x1 _ _ (LO_n (LD_lt (by omega)) (by unfold PG; omega)), y1, uz_n (by omega), uz_n (by omega), uz_n (by omega), uz_s]; rfl
                                · rw [uz_n (by omega), x1 _ _ (LO_n (LD_lt (by omega)) (by unfold PG; omega)), y1, uz_n (by omega), uz_n (by omega), uz_s]
                                · rw [uz_s, x2, yn]; omega
                                · rw [yn] at x3
                                  rw [show (μ 719 o1.toNat).toNat + 1 = (μ 719 o1.toNat + 1).toNat by omega]
                                  exact RA_kept x3 (fun x hx1 _ => ⟨uz_n (by omega), uz_n (by omega), uz_n (by omega)⟩)
                            exact ⟨by first | exact hmc.symm | (rw [hmc]; exact z1), hlo⟩)⟩, by rw [ht9]; exact hP, va_K.moved hW9.alike hK⟩, hS.F ht9⟩) hS.2.2 dX10_meets_161
        · have hof : (lay w1 w2).2 = true := by
            by_cases h9 : (lay w1 w2).2 = true
            · exact h9
            · rw [if_neg h9] at z2; omega
          rw [if_pos hof] at hmc
          refine lv_ldc (v := iZ 1000000) hx hb hown (hts _ k1547) dX10_meets_154 ?_
          refine lv_goto (tgt := 161) hx hb dX10_meets_156 (by decide) ?_
          exact W.iret (v := iZ (1000000)) hx hb hr (fun t9 ht9 hW9 => ⟨⟨iZ (1000000), (μg, 1000000), rfl, ⟨rfl, (by
                            dsimp only
                            have hlo : layO μ μg (n.toNat + 1) o1 (mtI k v w1 k2 v2 w2) := by
                              have en : (n + 1).toNat = n.toNat + 1 := by omega
                              rw [en] at z3 z4
                              refine ⟨fun h => ?_, fun h => ?_⟩
                              · rw [hμg.1 h, ← (hμc.1 h).1]; exact z3 h
                              · obtain ⟨y1, y2⟩ := hμc.2 h
                                obtain ⟨x1, x2, x3⟩ := z4 h
                                have hn9 := hcap h
                                have yn : μc 719 o1.toNat = μ 719 o1.toNat + 1 := by rw [y1, uz_s]
                                have yf : fr (PG o1.toNat (μ 719 o1.toNat).toNat) μ μc := by rw [y1]; exact fr_uz (fr_uz (fr_uz (fr_uz fr_rfl (by unfold PG; omega)) (by unfold PG; omega)) (by unfold PG; omega)) (by unfold PG; omega)
                                have xf : fr (LO (n.toNat + 1) o1.toNat (μ 719 o1.toNat).toNat) μ μe := fr_trans (fr_mono yf (fun a b h9 => Or.inr h9)) (fr_mono x1 (fun a b h9 => h9.elim Or.inl (fun h8 => Or.inr (by unfold PG at h8 ⊢; omega))))
                                rw [hμg.2 h, y2, hI1]
                                refine ⟨fr_uz xf (Or.inr (by unfold PG; omega)), ?_, ?_, ?_, ?_, ?_, trivial⟩
                                · rw [uz_n (by omega), x2, yn, rN_in, hN0]; omega
                                · rw [uz_n (by omega), x1 _ _ (LO_n (LD_lt (by omega)) (by unfold PG; omega)), y1, uz_n (by omega), uz_n (by omega), uz_n (by omega), uz_s]; rfl
                                · rw [uz_n (by omega), x1 _ _ (LO_n (LD_lt (by omega)) (by unfold PG; omega)), y1, uz_n (by omega), uz_n (by omega), uz_s]
                                · rw [uz_s, x2, yn]; omega
                                · rw [yn] at x3
                                  rw [show (μ 719 o1.toNat).toNat + 1 = (μ 719 o1.toNat + 1).toNat by omega]
                                  exact RA_kept x3 (fun x hx1 _ => ⟨uz_n (by omega), uz_n (by omega), uz_n (by omega)⟩)
                            exact ⟨by first | exact hmc.symm | (rw [hmc]; exact z1), hlo⟩)⟩, by rw [ht9]; exact hP, va_K.moved hW9.alike hK⟩, hS.F ht9⟩) hS.2.2 dX10_meets_161
      · have hmc : mtC k v w1 k2 v2 w2 = 1000000 := by
          unfold mtC
          rw [if_neg (by omega), if_neg (by omega)]
        refine lv_ldc (v := iZ 1000000) hx hb hown (hts _ k1547) dX10_meets_83 ?_
        exact W.iret (v := iZ (1000000)) hx hb hr (fun t9 ht9 hW9 => ⟨⟨iZ (1000000), (μ, 1000000), rfl, ⟨rfl, (by
                        dsimp only
                        exact ⟨hmc.symm, fun _ => fr_rfl, fun h => absurd (hval h) (by rw [hmc]; omega)⟩)⟩, by rw [ht9]; exact hP, va_K.moved hW9.alike hK⟩, hS.F ht9⟩) hS.2.2 dX10_meets_85
  · have hl1 := hw1.2.1 (by omega)
    subst hl1
    have hfl : rfus Std.DTreeMap.Internal.Impl.leaf w2 = Std.DTreeMap.Internal.Impl.leaf := by cases w2 <;> rfl
    have hN0 : rN (Std.DTreeMap.Internal.Impl.leaf : Rw) = 0 := rfl
    have hI1 : mtI k v .leaf k2 v2 w2 = .inner 0 (fK k v k2 v2) (fV k v k2 v2) .leaf .leaf := by unfold mtI; rw [if_pos (by omega), hfl]
    have hNI : rN (mtI k v .leaf k2 v2 w2) = 1 := by rw [hI1]; rfl
    rw [hNI] at hcap
    refine lv_aload_n hx hb dX10_meets_33 rfl (lv_at hl 3 rfl) ?_
    refine lv_iload hx hb dX10_meets_34 (lv_at hl 2 rfl) ?_
    refine lv_iload_n hx hb dX10_meets_36 rfl (lv_at hl 5 rfl) ?_
    refine lv_iload hx hb dX10_meets_37 (lv_at hl 1 rfl) ?_
    refine lv_iload_n hx hb dX10_meets_39 rfl (lv_at hl 6 rfl) ?_
    refine va_calli (va_runV (As := [.int (iZ (t)), .int (iZ (i0)), .int (iZ (u1)), .int (iZ (j0))]) (rest := []) ⟨hx, hb, hml, hown, hts⟩ (m_areAlike l dC dI cI cZ cII cIII h0 (20) s.heap.size μ (t) (i0) (u1) (j0) (k) (v) (.leaf) (k2) (v2) (w2) (by first | assumption | omega | exact ⟨by omega, by omega⟩) (by first | assumption | omega | exact ⟨by omega, by omega⟩) (by omega) (by omega) (by exact h1) (by exact h2) (by exact hw1) (by exact hw2) (by exact Nat.zero_le _)) (cwV 4 hts (gV_G k1393 k1395 ks_yX10_areAlike k13 k1396) rfl rfl rfl (by decide +kernel) ⟨by show 23 + 1 ≤ 5 * d + 32 + 1; omega, by show 8 + (8 + 11) + (700) ≤ 200 * d + 900 + 40; omega⟩) ⟨fun a U g mk q => by obtain ⟨q0, q1, qP, qK⟩ := q; exact ⟨q0, q1, qP, va_K.moved (u := U) (U := U.calling g mk a) (Vm.Alike.refl U.vm) qK⟩, va_recv hK hP (ci := 10) (q0 := 0) rfl ((fw_get (by decide)).trans (by rw [mE_obj]; rfl)), fun U hU hW => ⟨rfl, by rw [hU], by rw [hU]; exact hP, va_K.moved hW.alike hK⟩⟩ rfl rfl hl.1 rfl (lv_room (Nat.le_of_ble_eq_true rfl)) dX10_meets_40 ⟨Nat.le_of_ble_eq_true rfl, Nat.le_of_ble_eq_true rfl⟩) hS (fun q _ h => fA_le hS.1 q h) (fA_le hS.1) (fun r9 u9 t9 H1 locs ht9 hvm9 hw9 hB9 hz9 hk9 hS => ?_)
    obtain ⟨μ1, r2⟩ := u9
    obtain ⟨hP, -⟩ := hB9
    rw [ht9] at hP
    generalize H1 = H at hP hS ⊢
    obtain ⟨e9, hw9⟩ := hw9
    have e9 : r9 = iZ r2 := e9
    subst e9
    simp only at hP hw9
    have hμ1 := hw9; clear hw9
    rw [hμ1.1] at hP; have hμ1 := hμ1.2
    refine fz_if_eq (tgt := 61) (by constructor <;> omega) hx hb dX10_meets_43 (by decide) (fun c43_ => ?_) (fun c43_ => ?_)
    · have hmc : mtC k v .leaf k2 v2 w2 = 1000000 := by
        unfold mtC
        rw [if_pos (by omega), if_neg (fun h9 => by
          have h8 := ialkB_is.mp h9
          rcases hμ1 with ⟨h, _⟩ | ⟨_, h⟩
          · omega
          · exact h h8)]
      refine lv_ldc (v := iZ 1000000) hx hb hown (hts _ k1547) dX10_meets_61 ?_
      exact W.iret (v := iZ (1000000)) hx hb hr (fun t9 ht9 hW9 => ⟨⟨iZ (1000000), (μ, 1000000), rfl, ⟨rfl, (by
                    dsimp only
                    first
                      | exact ⟨hmc.symm, fun _ => fr_rfl, fun h => absurd (hval h) (by rw [hmc]; omega)⟩
                      | (have hmd : mtC k v .leaf k2 v2 w2 = fC k v k2 v2 (rfC .leaf w2) := by
                           unfold mtC
                           rw [if_pos (by omega), if_pos (ialkB_is.mpr hal)]
                         obtain ⟨z1, z2, z3⟩ := hμf
                         refine ⟨by rw [hmd]; exact z3, fun h => ?_, fun h => ?_⟩
                         · rw [z1 h]; exact fr_rfl
                         · obtain ⟨y1, y2, y3⟩ := z2 h
                           rw [hfl] at y3
                           rw [hI1]
                           refine ⟨fr_mono y1 (fun a b h9 => Or.inr h9), ?_, y3.1, y3.2.1, y3.2.2.1, trivial, trivial⟩
                           rw [y2, hN0]
                           show _ = _ + ((1 : Nat) : Int)
                           omega))⟩, by rw [ht9]; exact hP, va_K.moved hW9.alike hK⟩, hS.F ht9⟩) hS.2.2 dX10_meets_63
    · have hal : ialk k v .leaf k2 v2 w2 := by
        rcases hμ1 with ⟨_, h⟩ | ⟨h, _⟩
        · exact h
        · omega
      refine lv_aload_n hx hb dX10_meets_46 rfl (lv_at hl 3 rfl) ?_
      refine lv_iload hx hb dX10_meets_47 (lv_at hl 2 rfl) ?_
      refine lv_iload_n hx hb dX10_meets_49 rfl (lv_at hl 5 rfl) ?_
      refine lv_iload hx hb dX10_meets_50 (lv_at hl 1 rfl) ?_
      refine lv_iload_n hx hb dX10_meets_52 rfl (lv_at hl 6 rfl) ?_
      refine lv_iload hx hb dX10_meets_53 (lv_at hl 7 rfl) ?_
      refine va_calli (va_runV (As := [.int (iZ (t)), .int (iZ (i0)), .int (iZ (u1)), .int (iZ (j0)), .int (iZ (o1))]) (rest := []) ⟨hx, hb, hml, hown, hts⟩ (m_fuses l dC dI cI cZ cII cIII h0 (20) H.size μ (t) (i0) (u1) (j0) (o1) (k) (v) (.leaf) (k2) (v2) (w2) (by first | assumption | omega | exact ⟨by omega, by omega⟩) (by first | assumption | omega | exact ⟨by omega, by omega⟩) (by first | assumption | omega | exact ⟨by omega, by omega⟩) (by intro h; have h9 := hcap h; rw [hN0]; omega) (by omega) (by omega) (by exact h1) (by exact h2) (by exact hw1) (by exact hw2) (by exact hal) (by exact Nat.zero_le _)) (cwV 5 hts (gV_G k1416 k1418 ks_yX10_fuses k13 k1419) rfl rfl rfl (by decide +kernel) ⟨by show 23 + 1 ≤ 5 * d + 32 + 1; omega, by show 8 + (11 + 11) + (700) ≤ 200 * d + 900 + 40; omega⟩) ⟨fun a U g mk q => by obtain ⟨q0, q1, qP, qK⟩ := q; exact ⟨q0, q1, qP, va_K.moved (u := U) (U := U.calling g mk a) (Vm.Alike.refl U.vm) qK⟩, va_recv hK hP (ci := 10) (q0 := 0) rfl ((fw_get (by decide)).trans (by rw [mE_obj]; rfl)), fun U hU hW => ⟨rfl, by rw [hU], by rw [hU]; exact hP, va_K.moved hW.alike hK⟩⟩ rfl rfl hl.1 rfl (lv_room (Nat.le_of_ble_eq_true rfl)) dX10_meets_55 ⟨Nat.le_of_ble_eq_true rfl, Nat.le_of_ble_eq_true rfl⟩) hS (fun q _ h => fA_le hS.1 q h) (fA_le hS.1) (fun r9 u9 t9 H1 locs ht9 hvm9 hw9 hB9 hz9 hk9 hS => ?_)
      obtain ⟨μf, rf⟩ := u9
      obtain ⟨hP, -⟩ := hB9
      rw [ht9] at hP
      generalize H1 = H at hP hS ⊢
      obtain ⟨e9, hw9⟩ := hw9
      have e9 : r9 = iZ rf := e9
      subst e9
      simp only at hP hw9
      have hμf := hw9; clear hw9
      refine lv_goto (tgt := 63) hx hb dX10_meets_58 (by decide) ?_
      exact W.iret (v := iZ (rf)) hx hb hr (fun t9 ht9 hW9 => ⟨⟨iZ (rf), (μf, rf), rfl, ⟨rfl, (by
                    dsimp only
                    first
                      | exact ⟨hmc.symm, fun _ => fr_rfl, fun h => absurd (hval h) (by rw [hmc]; omega)⟩
                      | (have hmd : mtC k v .leaf k2 v2 w2 = fC k v k2 v2 (rfC .leaf w2) := by
                           unfold mtC
                           rw [if_pos (by omega), if_pos (ialkB_is.mpr hal)]
                         obtain ⟨z1, z2, z3⟩ := hμf
                         refine ⟨by rw [hmd]; exact z3, fun h => ?_, fun h => ?_⟩
                         · rw [z1 h]; exact fr_rfl
                         · obtain ⟨y1, y2, y3⟩ := z2 h
                           rw [hfl] at y3
                           rw [hI1]
                           refine ⟨fr_mono y1 (fun a b h9 => Or.inr h9), ?_, y3.1, y3.2.1, y3.2.2.1, trivial, trivial⟩
                           rw [y2, hN0]
                           show _ = _ + ((1 : Nat) : Int)
                           omega))⟩, by rw [ht9]; exact hP, va_K.moved hW9.alike hK⟩, hS.F ht9⟩) hS.2.2 dX10_meets_63

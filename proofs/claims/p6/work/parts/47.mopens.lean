theorem k1655 : (Cond.methodLink "PageSkeletonModel" (392 : Nat) ({ cls := "PageSkeletonModel", name := "turnsOn", desc := "(I)Z" } : MethodName)) ∈ wsG := wsG_at 1655 (by decide +kernel) (by decide +kernel)
theorem k1657 : (Cond.instanceMethod ({ cls := "PageSkeletonModel", name := "turnsOn", desc := "(I)Z" } : MethodName)) ∈ wsG := wsG_at 1657 (by decide +kernel) (by decide +kernel)
theorem k1658 : (Cond.code ({ cls := "PageSkeletonModel", name := "turnsOn", desc := "(I)Z" } : MethodName) prog_12_method_85_code (3 : Nat) (Option.some FieldType.boolean)) ∈ wsG := wsG_at 1658 (by decide +kernel) (by decide +kernel)
theorem ks_yX10_turnsOn : Cond.selects RX10 yX10_turnsOn yX10_turnsOn ∈ wsG := wsG_mem (by decide +kernel) (by decide +kernel)
theorem dX10_opensOn_0 : decode cX10_opensOn 0 = .ok (.iconst 0, 1) := by decide +kernel
theorem dX10_opensOn_1 : decode cX10_opensOn 1 = .ok (.istore_n 1, 1) := by decide +kernel
theorem dX10_opensOn_2 : decode cX10_opensOn 2 = .ok (.iconst 1, 1) := by decide +kernel
theorem dX10_opensOn_3 : decode cX10_opensOn 3 = .ok (.istore_n 2, 1) := by decide +kernel
theorem dX10_opensOn_4 : decode cX10_opensOn 4 = .ok (.iload_n 2, 1) := by decide +kernel
theorem dX10_opensOn_5 : decode cX10_opensOn 5 = .ok (.ifCond .eq 118, 3) := by decide +kernel
theorem dX10_opensOn_8 : decode cX10_opensOn 8 = .ok (.iconst 0, 1) := by decide +kernel
theorem dX10_opensOn_9 : decode cX10_opensOn 9 = .ok (.istore_n 2, 1) := by decide +kernel
theorem dX10_opensOn_10 : decode cX10_opensOn 10 = .ok (.iconst 0, 1) := by decide +kernel
theorem dX10_opensOn_11 : decode cX10_opensOn 11 = .ok (.istore_n 3, 1) := by decide +kernel
theorem dX10_opensOn_12 : decode cX10_opensOn 12 = .ok (.iload_n 3, 1) := by decide +kernel
theorem dX10_opensOn_13 : decode cX10_opensOn 13 = .ok (.aload_n 0, 1) := by decide +kernel
theorem dX10_opensOn_14 : decode cX10_opensOn 14 = .ok (.getfield 367, 3) := by decide +kernel
theorem dX10_opensOn_17 : decode cX10_opensOn 17 = .ok (.if_icmp .ge 103, 3) := by decide +kernel
theorem dX10_opensOn_20 : decode cX10_opensOn 20 = .ok (.aload_n 0, 1) := by decide +kernel
theorem dX10_opensOn_21 : decode cX10_opensOn 21 = .ok (.getfield 103, 3) := by decide +kernel
theorem dX10_opensOn_24 : decode cX10_opensOn 24 = .ok (.iload_n 3, 1) := by decide +kernel
theorem dX10_opensOn_25 : decode cX10_opensOn 25 = .ok (.baload, 1) := by decide +kernel
theorem dX10_opensOn_26 : decode cX10_opensOn 26 = .ok (.ifCond .eq 88, 3) := by decide +kernel
theorem dX10_opensOn_29 : decode cX10_opensOn 29 = .ok (.aload_n 0, 1) := by decide +kernel
theorem dX10_opensOn_30 : decode cX10_opensOn 30 = .ok (.iload_n 3, 1) := by decide +kernel
theorem dX10_opensOn_31 : decode cX10_opensOn 31 = .ok (.invokevirtual 371, 3) := by decide +kernel
theorem dX10_opensOn_34 : decode cX10_opensOn 34 = .ok (.ifCond .eq 6, 3) := by decide +kernel
theorem dX10_opensOn_37 : decode cX10_opensOn 37 = .ok (.goto 77, 3) := by decide +kernel
theorem dX10_opensOn_40 : decode cX10_opensOn 40 = .ok (.iload_n 2, 1) := by decide +kernel
theorem dX10_opensOn_41 : decode cX10_opensOn 41 = .ok (.aload_n 0, 1) := by decide +kernel
theorem dX10_opensOn_42 : decode cX10_opensOn 42 = .ok (.iload_n 3, 1) := by decide +kernel
theorem dX10_opensOn_43 : decode cX10_opensOn 43 = .ok (.iconst 1, 1) := by decide +kernel
theorem dX10_opensOn_44 : decode cX10_opensOn 44 = .ok (.iadd, 1) := by decide +kernel
theorem dX10_opensOn_45 : decode cX10_opensOn 45 = .ok (.invokevirtual 392, 3) := by decide +kernel
theorem dX10_opensOn_48 : decode cX10_opensOn 48 = .ok (.ior, 1) := by decide +kernel
theorem dX10_opensOn_49 : decode cX10_opensOn 49 = .ok (.istore_n 2, 1) := by decide +kernel
theorem dX10_opensOn_50 : decode cX10_opensOn 50 = .ok (.aload_n 0, 1) := by decide +kernel
theorem dX10_opensOn_51 : decode cX10_opensOn 51 = .ok (.getfield 94, 3) := by decide +kernel
theorem dX10_opensOn_54 : decode cX10_opensOn 54 = .ok (.iload_n 3, 1) := by decide +kernel
theorem dX10_opensOn_55 : decode cX10_opensOn 55 = .ok (.baload, 1) := by decide +kernel
theorem dX10_opensOn_56 : decode cX10_opensOn 56 = .ok (.ifCond .eq 26, 3) := by decide +kernel
theorem dX10_opensOn_59 : decode cX10_opensOn 59 = .ok (.aload_n 0, 1) := by decide +kernel
theorem dX10_opensOn_60 : decode cX10_opensOn 60 = .ok (.iload_n 3, 1) := by decide +kernel
theorem dX10_opensOn_61 : decode cX10_opensOn 61 = .ok (.invokevirtual 374, 3) := by decide +kernel
theorem dX10_opensOn_64 : decode cX10_opensOn 64 = .ok (.ifCond .ne 18, 3) := by decide +kernel
theorem dX10_opensOn_67 : decode cX10_opensOn 67 = .ok (.iload_n 2, 1) := by decide +kernel
theorem dX10_opensOn_68 : decode cX10_opensOn 68 = .ok (.aload_n 0, 1) := by decide +kernel
theorem dX10_opensOn_69 : decode cX10_opensOn 69 = .ok (.aload_n 0, 1) := by decide +kernel
theorem dX10_opensOn_70 : decode cX10_opensOn 70 = .ok (.getfield 91, 3) := by decide +kernel
theorem dX10_opensOn_73 : decode cX10_opensOn 73 = .ok (.iload_n 3, 1) := by decide +kernel
theorem dX10_opensOn_74 : decode cX10_opensOn 74 = .ok (.iaload, 1) := by decide +kernel
theorem dX10_opensOn_75 : decode cX10_opensOn 75 = .ok (.iconst 1, 1) := by decide +kernel
theorem dX10_opensOn_76 : decode cX10_opensOn 76 = .ok (.iadd, 1) := by decide +kernel
theorem dX10_opensOn_77 : decode cX10_opensOn 77 = .ok (.invokevirtual 392, 3) := by decide +kernel
theorem dX10_opensOn_80 : decode cX10_opensOn 80 = .ok (.ior, 1) := by decide +kernel
theorem dX10_opensOn_81 : decode cX10_opensOn 81 = .ok (.istore_n 2, 1) := by decide +kernel
theorem dX10_opensOn_82 : decode cX10_opensOn 82 = .ok (.aload_n 0, 1) := by decide +kernel
theorem dX10_opensOn_83 : decode cX10_opensOn 83 = .ok (.getfield 94, 3) := by decide +kernel
theorem dX10_opensOn_86 : decode cX10_opensOn 86 = .ok (.iload_n 3, 1) := by decide +kernel
theorem dX10_opensOn_87 : decode cX10_opensOn 87 = .ok (.baload, 1) := by decide +kernel
theorem dX10_opensOn_88 : decode cX10_opensOn 88 = .ok (.ifCond .ne 26, 3) := by decide +kernel
theorem dX10_opensOn_91 : decode cX10_opensOn 91 = .ok (.aload_n 0, 1) := by decide +kernel
theorem dX10_opensOn_92 : decode cX10_opensOn 92 = .ok (.iload_n 3, 1) := by decide +kernel
theorem dX10_opensOn_93 : decode cX10_opensOn 93 = .ok (.invokevirtual 374, 3) := by decide +kernel
theorem dX10_opensOn_96 : decode cX10_opensOn 96 = .ok (.ifCond .eq 18, 3) := by decide +kernel
theorem dX10_opensOn_99 : decode cX10_opensOn 99 = .ok (.iload_n 2, 1) := by decide +kernel
theorem dX10_opensOn_100 : decode cX10_opensOn 100 = .ok (.aload_n 0, 1) := by decide +kernel
theorem dX10_opensOn_101 : decode cX10_opensOn 101 = .ok (.aload_n 0, 1) := by decide +kernel
theorem dX10_opensOn_102 : decode cX10_opensOn 102 = .ok (.getfield 91, 3) := by decide +kernel
theorem dX10_opensOn_105 : decode cX10_opensOn 105 = .ok (.iload_n 3, 1) := by decide +kernel
theorem dX10_opensOn_106 : decode cX10_opensOn 106 = .ok (.iaload, 1) := by decide +kernel
theorem dX10_opensOn_107 : decode cX10_opensOn 107 = .ok (.iconst 1, 1) := by decide +kernel
theorem dX10_opensOn_108 : decode cX10_opensOn 108 = .ok (.iadd, 1) := by decide +kernel
theorem dX10_opensOn_109 : decode cX10_opensOn 109 = .ok (.invokevirtual 392, 3) := by decide +kernel
theorem dX10_opensOn_112 : decode cX10_opensOn 112 = .ok (.ior, 1) := by decide +kernel
theorem dX10_opensOn_113 : decode cX10_opensOn 113 = .ok (.istore_n 2, 1) := by decide +kernel
theorem dX10_opensOn_114 : decode cX10_opensOn 114 = .ok (.iinc 3 1, 3) := by decide +kernel
theorem dX10_opensOn_117 : decode cX10_opensOn 117 = .ok (.goto (-105), 3) := by decide +kernel
theorem dX10_opensOn_120 : decode cX10_opensOn 120 = .ok (.goto (-116), 3) := by decide +kernel
theorem dX10_opensOn_123 : decode cX10_opensOn 123 = .ok (.iconst 0, 1) := by decide +kernel
theorem dX10_opensOn_124 : decode cX10_opensOn 124 = .ok (.istore_n 3, 1) := by decide +kernel
theorem dX10_opensOn_125 : decode cX10_opensOn 125 = .ok (.iload_n 3, 1) := by decide +kernel
theorem dX10_opensOn_126 : decode cX10_opensOn 126 = .ok (.aload_n 0, 1) := by decide +kernel
theorem dX10_opensOn_127 : decode cX10_opensOn 127 = .ok (.getfield 367, 3) := by decide +kernel
theorem dX10_opensOn_130 : decode cX10_opensOn 130 = .ok (.if_icmp .gt 18, 3) := by decide +kernel
theorem dX10_opensOn_133 : decode cX10_opensOn 133 = .ok (.iload_n 1, 1) := by decide +kernel
theorem dX10_opensOn_134 : decode cX10_opensOn 134 = .ok (.aload_n 0, 1) := by decide +kernel
theorem dX10_opensOn_135 : decode cX10_opensOn 135 = .ok (.getfield 103, 3) := by decide +kernel
theorem dX10_opensOn_138 : decode cX10_opensOn 138 = .ok (.iload_n 3, 1) := by decide +kernel
theorem dX10_opensOn_139 : decode cX10_opensOn 139 = .ok (.baload, 1) := by decide +kernel
theorem dX10_opensOn_140 : decode cX10_opensOn 140 = .ok (.ior, 1) := by decide +kernel
theorem dX10_opensOn_141 : decode cX10_opensOn 141 = .ok (.istore_n 1, 1) := by decide +kernel
theorem dX10_opensOn_142 : decode cX10_opensOn 142 = .ok (.iinc 3 1, 3) := by decide +kernel
theorem dX10_opensOn_145 : decode cX10_opensOn 145 = .ok (.goto (-20), 3) := by decide +kernel
theorem dX10_opensOn_148 : decode cX10_opensOn 148 = .ok (.iload_n 1, 1) := by decide +kernel
theorem dX10_opensOn_149 : decode cX10_opensOn 149 = .ok (.ireturn, 1) := by decide +kernel
/-! which states are on -/
def nO (μ : va_M) : Nat → Nat
  | 0 => 0
  | n + 1 => nO μ n + (if μ 6317 n = 0 then 1 else 0)
theorem nO_n {μ : va_M} {q : Nat} {v : Int} : ∀ n : Nat, n ≤ q → nO (uz μ 6317 q v) n = nO μ n
  | 0, _ => rfl
  | n + 1, h => by rw [nO, nO, nO_n n (by omega), uz_n (by omega)]
theorem nO_up {μ : va_M} {q : Nat} : ∀ n : Nat, q < n → nO (uz μ 6317 q 1) n ≤ nO μ n ∧ (μ 6317 q = 0 → nO (uz μ 6317 q 1) n < nO μ n)
  | 0, h => absurd h (by omega)
  | n + 1, h => by
    rw [nO, nO]
    by_cases hq : q = n
    · subst hq
      rw [nO_n q (Nat.le_refl q), uz_s, if_neg (by omega)]
      constructor
      · omega
      · intro h2; rw [if_pos h2]; omega
    · rw [uz_n (by omega)]
      obtain ⟨g1, g2⟩ := nO_up (μ := μ) (q := q) n (by omega)
      exact ⟨by omega, fun h3 => by have := g2 h3; omega⟩
/-- the states that are on are told by zeros and ones -/
def onB (μ : va_M) (k : Nat) : Prop := ∀ x : Nat, (x : Int) ≤ μ 0 39 → μ k x = 0 ∨ μ k x = 1
theorem onB_up {μ : va_M} {q : Nat} (h : onB μ 6317) : onB (uz μ 6317 q 1) 6317 := fun x hx => by
  rw [uz_n (by omega)] at hx
  by_cases h9 : x = q
  · subst h9; rw [uz_s]; exact Or.inr rfl
  · rw [uz_n (by omega)]; exact h x hx
def OF (x y : Nat) : Prop := x = 6317
theorem stOK_OF {μ u : va_M} (h : stOK μ) (hf : fr OF μ u) : stOK u := stOK_fr h hf (fun x y hh => by unfold OF at hh; omega)
set_option maxHeartbeats 4000000 in
set_option maxRecDepth 100000 in
theorem LX10_opensOn_12 {p : Program} {l : Launch} {e : Env} {R : Room} {s : State} {m : MethodId} {args : Array Value} {below : List Frame} {meth : Method} {c : Code} {cells slots : Nat} {Q : State → Prop} {dC : Nat → ClassId} {dI : Nat → Nat → Nat} {h0 : Nat} {cI cZ cII cIII : ClassId} (hx : p.tables.exec = Jvm.exec) (hb : c.code = cX10_opensOn) (hml : c.maxLocals = 4) (hown : s.vm.findClass RX10 = some m.cls) (hts : ∀ w ∈ wsG, w.before args s = true) (hK : va_K (dC, dI) vwCl (mT cI cZ cII cIII) s) (hRf : 3 ≤ R.frames) (hRl : 60 ≤ R.locals) (hRc : cells ≤ R.cells) (hRs : slots ≤ R.slots) (μ0 : va_M) (M0 : Nat) (hO : stOK μ0) (hexit120 : ∀ (mv : Int) (q : Int) (μ : va_M) (H : Heap) (locs : List Loc) (ls : Array Slot), (fr OF μ0 μ) → (onB μ 6317) → (nO μ ((μ0 0 39).toNat + 1) ≤ M0 ∧ (mv = 0 ∨ (mv = 1 ∧ nO μ ((μ0 0 39).toNat + 1) < M0))) → va_P (dC, dI) vwCl (fw (mE cI cZ cII cIII h0) h0 6325 μ) H → va_S (fA h0 6325 s.heap.size) s.heap H locs → lv_has ls 4 [(2, .int (iZ (mv))), (1, .int (iZ (0))), (0, .ref h0)] → W p l e R s m args below meth c H locs cells slots Q (F0 m 120 ls [])) :
    ∀ (n9 : Nat) (mv : Int) (q : Int) (μ : va_M) (H : Heap) (locs : List Loc) (ls : Array Slot), (0 ≤ q ∧ q ≤ μ0 0 39) → (fr OF μ0 μ) → (onB μ 6317) → (nO μ ((μ0 0 39).toNat + 1) ≤ M0) → (mv = 0 ∨ (mv = 1 ∧ nO μ ((μ0 0 39).toNat + 1) < M0)) → (2000 - q).toNat < n9 → va_P (dC, dI) vwCl (fw (mE cI cZ cII cIII h0) h0 6325 μ) H → va_S (fA h0 6325 s.heap.size) s.heap H locs → lv_has ls 4 [(3, .int (iZ (q))), (2, .int (iZ (mv))), (1, .int (iZ (0))), (0, .ref h0)] → W p l e R s m args below meth c H locs cells slots Q (F0 m 12 ls []) := by
  intro n9
  induction n9 with
  | zero => intro mv q μ H locs ls hq hf hb2 hM hd hm9 hP hS hl; exact absurd hm9 (Nat.not_lt_zero _)
  | succ n9 ih =>
    intro mv q μ H locs ls hq hf hb2 hM hd hm9 hP hS hl
    have e39 : μ 0 39 = μ0 0 39 := hf 0 39 (by unfold OF; omega)
    have hO1 := stOK_OF hO hf
    have hb1_ := hO.1
    have hb2_ := hO.2.1
    have hmv : mv = 0 ∨ mv = 1 := by rcases hd with h | h <;> omega
    refine lv_iload_n hx hb dX10_opensOn_12 rfl (lv_at hl 0 rfl) ?_
    refine lv_aload_n hx hb dX10_opensOn_13 rfl (lv_at hl 3 rfl) ?_
    refine fz_get (D := (dC, dI)) (ci := 10) (v := .int (iZ (μ 0 39))) (C := RX10) (T := TX10) (N := 53) hx hb hts inG10 hown hK hP (k := 0) (by decide) (F := mF h0) mE_obj rfl 39 (by decide) (hts _ k1205) (fun _ h9 => h9) rfl dX10_opensOn_14 ?_
    refine fz_icmp_ge (tgt := 120) (by constructor <;> (first | ((try clear hd); (try clear hμ1); (try clear hμ4); (try clear hμ7); (try clear hμa); (try clear hμb); (try clear h1); (try clear hmv); (try clear az); (try clear bz); (try clear ar); (try clear br); (try clear hbq); (try clear hbn); (try clear an); (try clear bn); omega) | omega)) (by constructor <;> (first | ((try clear hd); (try clear hμ1); (try clear hμ4); (try clear hμ7); (try clear hμa); (try clear hμb); (try clear h1); (try clear hmv); (try clear az); (try clear bz); (try clear ar); (try clear br); (try clear hbq); (try clear hbn); (try clear an); (try clear bn); omega) | omega)) hx hb dX10_opensOn_17 (by decide) (fun c17_ => ?_) (fun c17_ => ?_)
    · exact hexit120 (mv) (q) μ H locs ls (by exact hf) (by exact hb2) (by exact ⟨hM, hd⟩) hP hS (lv_sub hl [1, 2, 3] rfl)
    · have hbq := hb2 q.toNat (by (first | ((try clear hd); (try clear hμ1); (try clear hμ4); (try clear hμ7); (try clear hμa); (try clear hμb); (try clear h1); (try clear hmv); (try clear az); (try clear bz); (try clear ar); (try clear br); (try clear hbq); (try clear hbn); (try clear an); (try clear bn); omega) | omega))
      obtain ⟨⟨s1, s2⟩, s3, s4⟩ := hO1.2.2.2 q.toNat (by (first | ((try clear hd); (try clear hμ1); (try clear hμ4); (try clear hμ7); (try clear hμa); (try clear hμb); (try clear h1); (try clear hmv); (try clear az); (try clear bz); (try clear ar); (try clear br); (try clear hbq); (try clear hbn); (try clear an); (try clear bn); omega) | omega))
      refine lv_aload_n hx hb dX10_opensOn_20 rfl (lv_at hl 3 rfl) ?_
      refine fz_get (D := (dC, dI)) (ci := 10) (v := .ref (h0 + 6317)) (C := RX10) (T := TX10) (N := 53) hx hb hts inG10 hown hK hP (k := 0) (by decide) (F := mF h0) mE_obj rfl 45 (by decide) (hts _ k1211) (fun _ h9 => h9) rfl dX10_opensOn_21 ?_
      refine lv_iload_n hx hb dX10_opensOn_24 rfl (lv_at hl 0 rfl) ?_
      refine fz_zld (k := 6317) (n := 1900) hx hb hK hP 1 (by decide) mE_isOn rfl ⟨by (first | ((try clear hd); (try clear hμ1); (try clear hμ4); (try clear hμ7); (try clear hμa); (try clear hμb); (try clear h1); (try clear hmv); (try clear az); (try clear bz); (try clear ar); (try clear br); (try clear hbq); (try clear hbn); (try clear an); (try clear bn); omega) | omega), by (first | ((try clear hd); (try clear hμ1); (try clear hμ4); (try clear hμ7); (try clear hμa); (try clear hμb); (try clear h1); (try clear hmv); (try clear az); (try clear bz); (try clear ar); (try clear br); (try clear hbq); (try clear hbn); (try clear an); (try clear bn); omega) | omega)⟩ (by decide) dX10_opensOn_25 ?_
      refine fz_if_eq (tgt := 114) (by constructor <;> (first | ((try clear hd); (try clear hμ1); (try clear hμ4); (try clear hμ7); (try clear hμa); (try clear hμb); (try clear h1); (try clear hmv); (try clear az); (try clear bz); (try clear ar); (try clear br); (try clear hbq); (try clear hbn); (try clear an); (try clear bn); omega) | omega)) hx hb dX10_opensOn_26 (by decide) (fun c26_ => ?_) (fun c26_ => ?_)
      · refine lv_iinc (v := iZ (q + 1)) (lv' := [(3, .int (iZ (q + 1))), (2, .int (iZ (mv))), (1, .int (iZ (0))), (0, .ref h0)]) hx hb dX10_opensOn_114 hl (k := 0) rfl (iZ_add _ _) (by decide) rfl (fun ls hl => ?_)
        refine lv_goto (tgt := 12) hx hb dX10_opensOn_117 (by decide) ?_
        exact ih (mv) (q + 1) μ H locs ls (by (first | ((try clear hd); (try clear hμ1); (try clear hμ4); (try clear hμ7); (try clear hμa); (try clear hμb); (try clear h1); (try clear hmv); (try clear az); (try clear bz); (try clear ar); (try clear br); (try clear hbq); (try clear hbn); (try clear an); (try clear bn); omega) | omega)) (by first | exact bf | exact af | exact hf) (by first | exact bb | exact ab | exact hb2) (by first | (have h8 := bn.1; have h9 := an.1; omega) | (have h9 := an.1; omega) | omega) (by
                        first
                          | exact hd
                          | (rcases az with ⟨z1, z2, z3⟩ | ⟨z1, z2⟩
                             · have bz9 := bz
                               rcases bz with ⟨y1, y2, y3⟩ | ⟨y1, y2⟩
                               · exact Or.inl y1
                               · refine Or.inr ⟨y1, ?_⟩
                                 have h7 := bn.2 (br.2 (by (first | ((try clear hd); (try clear hμ1); (try clear hμ4); (try clear hμ7); (try clear hμa); (try clear hμb); (try clear h1); (try clear hmv); (try clear az); (try clear bz); (try clear ar); (try clear br); (try clear hbq); (try clear hbn); (try clear an); (try clear bn); omega) | omega)))
                                 have h9 := an.1
                                 omega
                             · have bz9 := bz
                               rcases bz with ⟨y1, y2, y3⟩ | ⟨y1, y2⟩
                               · exact Or.inl y1
                               · refine Or.inr ⟨y1, ?_⟩
                                 have h8 := bn.1
                                 rcases z2 with z2 | z2
                                 · have h9 := an.1
                                   rcases hd with hd | hd <;> omega
                                 · have h9 := an.2 (ar.2 z2)
                                   omega)
                          | (rcases az with ⟨z1, z2, z3⟩ | ⟨z1, z2⟩
                             · exact Or.inl z1
                             · refine Or.inr ⟨z1, ?_⟩
                               rcases z2 with z2 | z2
                               · have h9 := an.1
                                 rcases hd with hd | hd <;> omega
                               · have h9 := an.2 (ar.2 z2)
                                 omega)) (by (first | ((try clear hd); (try clear hμ1); (try clear hμ4); (try clear hμ7); (try clear hμa); (try clear hμb); (try clear h1); (try clear hmv); (try clear az); (try clear bz); (try clear ar); (try clear br); (try clear hbq); (try clear hbn); (try clear an); (try clear bn); omega) | omega)) hP hS (lv_sub hl [0, 1, 2, 3] rfl)
      · refine lv_aload_n hx hb dX10_opensOn_29 rfl (lv_at hl 3 rfl) ?_
        refine lv_iload_n hx hb dX10_opensOn_30 rfl (lv_at hl 0 rfl) ?_
        refine va_calli (va_runV (As := [.int (iZ (q))]) (rest := []) ⟨hx, hb, hml, hown, hts⟩ (m_isLeaf l dC dI cI cZ cII cIII h0 H.size μ (q) (by first | assumption | ((try clear hd); (try clear hμ1); (try clear hμ4); (try clear hμ7); (try clear hμa); (try clear hμb); (try clear h1); (try clear hmv); (try clear az); (try clear bz); (try clear ar); (try clear br); (try clear hbq); (try clear hbn); (try clear an); (try clear bn); omega) | omega | exact ⟨by (first | ((try clear hd); (try clear hμ1); (try clear hμ4); (try clear hμ7); (try clear hμa); (try clear hμb); (try clear h1); (try clear hmv); (try clear az); (try clear bz); (try clear ar); (try clear br); (try clear hbq); (try clear hbn); (try clear an); (try clear bn); omega) | omega), by (first | ((try clear hd); (try clear hμ1); (try clear hμ4); (try clear hμ7); (try clear hμa); (try clear hμb); (try clear h1); (try clear hmv); (try clear az); (try clear bz); (try clear ar); (try clear br); (try clear hbq); (try clear hbn); (try clear an); (try clear bn); omega) | omega)⟩) (by first | assumption | ((try clear hd); (try clear hμ1); (try clear hμ4); (try clear hμ7); (try clear hμa); (try clear hμb); (try clear h1); (try clear hmv); (try clear az); (try clear bz); (try clear ar); (try clear br); (try clear hbq); (try clear hbn); (try clear an); (try clear bn); omega) | omega | exact ⟨by (first | ((try clear hd); (try clear hμ1); (try clear hμ4); (try clear hμ7); (try clear hμa); (try clear hμb); (try clear h1); (try clear hmv); (try clear az); (try clear bz); (try clear ar); (try clear br); (try clear hbq); (try clear hbn); (try clear an); (try clear bn); omega) | omega), by (first | ((try clear hd); (try clear hμ1); (try clear hμ4); (try clear hμ7); (try clear hμa); (try clear hμb); (try clear h1); (try clear hmv); (try clear az); (try clear bz); (try clear ar); (try clear br); (try clear hbq); (try clear hbn); (try clear an); (try clear bn); omega) | omega)⟩)) (cwV 1 hts (gV_G k1508 k1510 ks_yX10_isLeaf k13 k1511) rfl rfl rfl (by decide +kernel) ⟨by show 1 + 1 ≤ _; omega, by show 8 + (2 + 11) + (14) ≤ _; omega⟩) ⟨fun a U g mk q => by obtain ⟨q0, q1, qP, qK⟩ := q; exact ⟨q0, q1, qP, va_K.moved (u := U) (U := U.calling g mk a) (Vm.Alike.refl U.vm) qK⟩, va_recv hK hP (ci := 10) (q0 := 0) rfl ((fw_get (by decide)).trans (by rw [mE_obj]; rfl)), fun U hU hW => ⟨rfl, by rw [hU], by rw [hU]; exact hP, va_K.moved hW.alike hK⟩⟩ rfl rfl hl.1 rfl (lv_room (Nat.le_of_ble_eq_true rfl)) dX10_opensOn_31 ⟨hRc, hRs⟩) hS (fun q _ h => fA_le hS.1 q h) (fA_le hS.1) (fun r9 u9 t9 H1 locs ht9 hvm9 hw9 hB9 hz9 hk9 hS => ?_)
        obtain ⟨μ1, r2⟩ := u9
        obtain ⟨hP, -⟩ := hB9
        rw [ht9] at hP
        generalize H1 = H at hP hS ⊢
        obtain ⟨e9, hw9⟩ := hw9
        have e9 : r9 = iZ r2 := e9
        subst e9
        simp only at hP hw9
        have hμ1 := hw9; clear hw9
        rw [hμ1.1] at hP; have hμ1 := hμ1.2
        have h1 := hμ1
        refine fz_if_eq (tgt := 40) (by constructor <;> (first | ((try clear hd); (try clear hμ1); (try clear hμ4); (try clear hμ7); (try clear hμa); (try clear hμb); (try clear h1); (try clear hmv); (try clear az); (try clear bz); (try clear ar); (try clear br); (try clear hbq); (try clear hbn); (try clear an); (try clear bn); omega) | omega)) hx hb dX10_opensOn_34 (by decide) (fun c34_ => ?_) (fun c34_ => ?_)
        · have hlf := if_not h1 (by (first | ((try clear hd); (try clear hμ1); (try clear hμ4); (try clear hμ7); (try clear hμa); (try clear hμb); (try clear h1); (try clear hmv); (try clear az); (try clear bz); (try clear ar); (try clear br); (try clear hbq); (try clear hbn); (try clear an); (try clear bn); omega) | omega))
          obtain ⟨m1, m2⟩ := s4 (by unfold nod at hlf; omega)
          have hbn := hb2 (q.toNat + 1) (by (first | ((try clear hd); (try clear hμ1); (try clear hμ4); (try clear hμ7); (try clear hμa); (try clear hμb); (try clear h1); (try clear hmv); (try clear az); (try clear bz); (try clear ar); (try clear br); (try clear hbq); (try clear hbn); (try clear an); (try clear bn); omega) | omega))
          refine lv_iload_n hx hb dX10_opensOn_40 rfl (lv_at hl 1 rfl) ?_
          refine lv_aload_n hx hb dX10_opensOn_41 rfl (lv_at hl 3 rfl) ?_
          refine lv_iload_n hx hb dX10_opensOn_42 rfl (lv_at hl 0 rfl) ?_
          refine lv_iconst (v := iZ 1) hx hb dX10_opensOn_43 rfl ?_
          refine lv_iadd hx hb dX10_opensOn_44 ?_
          refine lv_topi (fun x9 ex9 => ?_)
          obtain rfl : x9 = iZ (q + 1) := ex9.trans (iZ_add _ _)
          refine va_calli (va_runV (As := [.int (iZ (q + 1))]) (rest := [.int (iZ (mv))]) ⟨hx, hb, hml, hown, hts⟩ (m_turnsOn l dC dI cI cZ cII cIII h0 H.size μ (q + 1) (by first | assumption | ((try clear hd); (try clear hμ1); (try clear hμ4); (try clear hμ7); (try clear hμa); (try clear hμb); (try clear h1); (try clear hmv); (try clear az); (try clear bz); (try clear ar); (try clear br); (try clear hbq); (try clear hbn); (try clear an); (try clear bn); omega) | omega | exact ⟨by (first | ((try clear hd); (try clear hμ1); (try clear hμ4); (try clear hμ7); (try clear hμa); (try clear hμb); (try clear h1); (try clear hmv); (try clear az); (try clear bz); (try clear ar); (try clear br); (try clear hbq); (try clear hbn); (try clear an); (try clear bn); omega) | omega), by (first | ((try clear hd); (try clear hμ1); (try clear hμ4); (try clear hμ7); (try clear hμa); (try clear hμb); (try clear h1); (try clear hmv); (try clear az); (try clear bz); (try clear ar); (try clear br); (try clear hbq); (try clear hbn); (try clear an); (try clear bn); omega) | omega)⟩) (by rw [show (q + 1).toNat = q.toNat + 1 by (first | ((try clear hd); (try clear hμ1); (try clear hμ4); (try clear hμ7); (try clear hμa); (try clear hμb); (try clear h1); (try clear hmv); (try clear az); (try clear bz); (try clear ar); (try clear br); (try clear hbq); (try clear hbn); (try clear an); (try clear bn); omega) | omega)]; exact hbn)) (cwV 1 hts (gV_G k1655 k1657 ks_yX10_turnsOn k13 k1658) rfl rfl rfl (by decide +kernel) ⟨by show 1 + 1 ≤ _; omega, by show 8 + (3 + 11) + (14) ≤ _; omega⟩) ⟨fun a U g mk q => by obtain ⟨q0, q1, qP, qK⟩ := q; exact ⟨q0, q1, qP, va_K.moved (u := U) (U := U.calling g mk a) (Vm.Alike.refl U.vm) qK⟩, va_recv hK hP (ci := 10) (q0 := 0) rfl ((fw_get (by decide)).trans (by rw [mE_obj]; rfl)), fun U hU hW => ⟨rfl, by rw [hU], by rw [hU]; exact hP, va_K.moved hW.alike hK⟩⟩ rfl rfl hl.1 rfl (lv_room (Nat.le_of_ble_eq_true rfl)) dX10_opensOn_45 ⟨hRc, hRs⟩) hS (fun q _ h => fA_le hS.1 q h) (fA_le hS.1) (fun r9 u9 t9 H1 locs ht9 hvm9 hw9 hB9 hz9 hk9 hS => ?_)
          obtain ⟨μa, ra⟩ := u9
          obtain ⟨hP, -⟩ := hB9
          rw [ht9] at hP
          generalize H1 = H at hP hS ⊢
          obtain ⟨e9, hw9⟩ := hw9
          have e9 : r9 = iZ ra := e9
          subst e9
          simp only at hP hw9
          have hμa := hw9; clear hw9
          obtain ⟨a1, a2⟩ := hμa
          have ab : onB μa 6317 := by rw [a1]; exact onB_up hb2
          have af : fr OF μ0 μa := by rw [a1]; exact fr_uz hf rfl
          have an := nO_up (μ := μ) (q := (q + 1).toNat) ((μ0 0 39).toNat + 1) (by (first | ((try clear hd); (try clear hμ1); (try clear hμ4); (try clear hμ7); (try clear hμa); (try clear hμb); (try clear h1); (try clear hmv); (try clear az); (try clear bz); (try clear ar); (try clear br); (try clear hbq); (try clear hbn); (try clear an); (try clear bn); omega) | omega))
          rw [← a1] at an
          have ar : (ra = 0 ∨ ra = 1) ∧ (ra = 1 → μ 6317 ((q + 1).toNat) = 0) := by
            refine ⟨if_01 a2, fun h => ?_⟩
            exact if_get a2 (by (first | ((try clear hd); (try clear hμ1); (try clear hμ4); (try clear hμ7); (try clear hμa); (try clear hμb); (try clear h1); (try clear hmv); (try clear az); (try clear bz); (try clear ar); (try clear br); (try clear hbq); (try clear hbn); (try clear an); (try clear bn); omega) | omega))
          have ae : ∀ x y, x ≠ 6317 → μa x y = μ x y := fun x y h => by rw [a1, uz_n (by (first | ((try clear hd); (try clear hμ1); (try clear hμ4); (try clear hμ7); (try clear hμa); (try clear hμb); (try clear h1); (try clear hmv); (try clear az); (try clear bz); (try clear ar); (try clear br); (try clear hbq); (try clear hbn); (try clear an); (try clear bn); omega) | omega))]
          have a44 := ae 4414 q.toNat (by (first | ((try clear hd); (try clear hμ1); (try clear hμ4); (try clear hμ7); (try clear hμa); (try clear hμb); (try clear h1); (try clear hmv); (try clear az); (try clear bz); (try clear ar); (try clear br); (try clear hbq); (try clear hbn); (try clear an); (try clear bn); omega) | omega))
          have a43 := ae 4413 q.toNat (by (first | ((try clear hd); (try clear hμ1); (try clear hμ4); (try clear hμ7); (try clear hμa); (try clear hμb); (try clear h1); (try clear hmv); (try clear az); (try clear bz); (try clear ar); (try clear br); (try clear hbq); (try clear hbn); (try clear an); (try clear bn); omega) | omega))
          have a39 := ae 0 39 (by (first | ((try clear hd); (try clear hμ1); (try clear hμ4); (try clear hμ7); (try clear hμa); (try clear hμb); (try clear h1); (try clear hmv); (try clear az); (try clear bz); (try clear ar); (try clear br); (try clear hbq); (try clear hbn); (try clear an); (try clear bn); omega) | omega))
          have aO := stOK_OF hO af
          refine lv_ior hx hb dX10_opensOn_48 ?_
          refine lv_topi (fun x9 ex9 => ?_)
          obtain ⟨z3, rfl, hz3⟩ := iZ_ex x9
          have ez3 := ex9; clear ex9
          have az := ior_b hz3 ez3 hmv ar.1
          refine lv_istore_n (lv' := [(2, .int (iZ (z3))), (3, .int (iZ (q))), (1, .int (iZ (0))), (0, .ref h0)]) hx hb dX10_opensOn_49 rfl hl (by decide) rfl (fun ls hl => ?_)
          refine lv_aload_n hx hb dX10_opensOn_50 rfl (lv_at hl 3 rfl) ?_
          refine fz_get (D := (dC, dI)) (ci := 10) (v := .ref (h0 + 4414)) (C := RX10) (T := TX10) (N := 53) hx hb hts inG10 hown hK hP (k := 0) (by decide) (F := mF h0) mE_obj rfl 42 (by decide) (hts _ k1208) (fun _ h9 => h9) rfl dX10_opensOn_51 ?_
          refine lv_iload_n hx hb dX10_opensOn_54 rfl (lv_at hl 1 rfl) ?_
          refine fz_zld (k := 4414) (n := 1900) hx hb hK hP 1 (by decide) mE_isEnd rfl ⟨by (first | ((try clear hd); (try clear hμ1); (try clear hμ4); (try clear hμ7); (try clear hμa); (try clear hμb); (try clear h1); (try clear hmv); (try clear az); (try clear bz); (try clear ar); (try clear br); (try clear hbq); (try clear hbn); (try clear an); (try clear bn); omega) | omega), by (first | ((try clear hd); (try clear hμ1); (try clear hμ4); (try clear hμ7); (try clear hμa); (try clear hμb); (try clear h1); (try clear hmv); (try clear az); (try clear bz); (try clear ar); (try clear br); (try clear hbq); (try clear hbn); (try clear an); (try clear bn); omega) | omega)⟩ (by decide) dX10_opensOn_55 ?_
          rw [show μa 4414 (q).toNat = μ 4414 q.toNat from (by exact a44)]
          refine fz_if_eq (tgt := 82) (by constructor <;> (first | ((try clear hd); (try clear hμ1); (try clear hμ4); (try clear hμ7); (try clear hμa); (try clear hμb); (try clear h1); (try clear hmv); (try clear az); (try clear bz); (try clear ar); (try clear br); (try clear hbq); (try clear hbn); (try clear an); (try clear bn); omega) | omega)) hx hb dX10_opensOn_56 (by decide) (fun c56_ => ?_) (fun c56_ => ?_)
          · refine lv_aload_n hx hb dX10_opensOn_82 rfl (lv_at hl 3 rfl) ?_
            refine fz_get (D := (dC, dI)) (ci := 10) (v := .ref (h0 + 4414)) (C := RX10) (T := TX10) (N := 53) hx hb hts inG10 hown hK hP (k := 0) (by decide) (F := mF h0) mE_obj rfl 42 (by decide) (hts _ k1208) (fun _ h9 => h9) rfl dX10_opensOn_83 ?_
            refine lv_iload_n hx hb dX10_opensOn_86 rfl (lv_at hl 1 rfl) ?_
            refine fz_zld (k := 4414) (n := 1900) hx hb hK hP 1 (by decide) mE_isEnd rfl ⟨by (first | ((try clear hd); (try clear hμ1); (try clear hμ4); (try clear hμ7); (try clear hμa); (try clear hμb); (try clear h1); (try clear hmv); (try clear az); (try clear bz); (try clear ar); (try clear br); (try clear hbq); (try clear hbn); (try clear an); (try clear bn); omega) | omega), by (first | ((try clear hd); (try clear hμ1); (try clear hμ4); (try clear hμ7); (try clear hμa); (try clear hμb); (try clear h1); (try clear hmv); (try clear az); (try clear bz); (try clear ar); (try clear br); (try clear hbq); (try clear hbn); (try clear an); (try clear bn); omega) | omega)⟩ (by decide) dX10_opensOn_87 ?_
            rw [show μa 4414 (q).toNat = μ 4414 q.toNat from (by first | exact a44 | (rw [b1, uz_n (by (first | ((try clear hd); (try clear hμ1); (try clear hμ4); (try clear hμ7); (try clear hμa); (try clear hμb); (try clear h1); (try clear hmv); (try clear az); (try clear bz); (try clear ar); (try clear br); (try clear hbq); (try clear hbn); (try clear an); (try clear bn); omega) | omega))]; exact a44))]
            refine fz_if_ne (tgt := 114) (by constructor <;> (first | ((try clear hd); (try clear hμ1); (try clear hμ4); (try clear hμ7); (try clear hμa); (try clear hμb); (try clear h1); (try clear hmv); (try clear az); (try clear bz); (try clear ar); (try clear br); (try clear hbq); (try clear hbn); (try clear an); (try clear bn); omega) | omega)) hx hb dX10_opensOn_88 (by decide) (fun h9 => (by (first | ((try clear hd); (try clear hμ1); (try clear hμ4); (try clear hμ7); (try clear hμa); (try clear hμb); (try clear h1); (try clear hmv); (try clear az); (try clear bz); (try clear ar); (try clear br); (try clear hbq); (try clear hbn); (try clear an); (try clear bn); omega) | omega))) (fun c88_ => ?_)
            refine lv_aload_n hx hb dX10_opensOn_91 rfl (lv_at hl 3 rfl) ?_
            refine lv_iload_n hx hb dX10_opensOn_92 rfl (lv_at hl 1 rfl) ?_
            refine va_calli (va_runV (As := [.int (iZ (q))]) (rest := []) ⟨hx, hb, hml, hown, hts⟩ (m_isOption l dC dI cI cZ cII cIII h0 H.size μa (q) (by exact aO) (by (first | ((try clear hd); (try clear hμ1); (try clear hμ4); (try clear hμ7); (try clear hμa); (try clear hμb); (try clear h1); (try clear hmv); (try clear az); (try clear bz); (try clear ar); (try clear br); (try clear hbq); (try clear hbn); (try clear an); (try clear bn); omega) | omega))) (cwV 1 hts (gV_G k1520 k1522 ks_yX10_isOption k13 k1523) rfl rfl rfl (by decide +kernel) ⟨by show 1 + 1 ≤ _; omega, by show 8 + (2 + 11) + (14) ≤ _; omega⟩) ⟨fun a U g mk q => by obtain ⟨q0, q1, qP, qK⟩ := q; exact ⟨q0, q1, qP, va_K.moved (u := U) (U := U.calling g mk a) (Vm.Alike.refl U.vm) qK⟩, va_recv hK hP (ci := 10) (q0 := 0) rfl ((fw_get (by decide)).trans (by rw [mE_obj]; rfl)), fun U hU hW => ⟨rfl, by rw [hU], by rw [hU]; exact hP, va_K.moved hW.alike hK⟩⟩ rfl rfl hl.1 rfl (lv_room (Nat.le_of_ble_eq_true rfl)) dX10_opensOn_93 ⟨hRc, hRs⟩) hS (fun q _ h => fA_le hS.1 q h) (fA_le hS.1) (fun r9 u9 t9 H1 locs ht9 hvm9 hw9 hB9 hz9 hk9 hS => ?_)
            obtain ⟨μ4, r5⟩ := u9
            obtain ⟨hP, -⟩ := hB9
            rw [ht9] at hP
            generalize H1 = H at hP hS ⊢
            obtain ⟨e9, hw9⟩ := hw9
            have e9 : r9 = iZ r5 := e9
            subst e9
            simp only at hP hw9
            have hμ4 := hw9; clear hw9
            rw [hμ4.1] at hP; have hμ4 := hμ4.2
            refine fz_if_eq (tgt := 114) (by constructor <;> (first | ((try clear hd); (try clear hμ1); (try clear hμ4); (try clear hμ7); (try clear hμa); (try clear hμb); (try clear h1); (try clear hmv); (try clear az); (try clear bz); (try clear ar); (try clear br); (try clear hbq); (try clear hbn); (try clear an); (try clear bn); omega) | omega)) hx hb dX10_opensOn_96 (by decide) (fun c96_ => ?_) (fun c96_ => ?_)
            · refine lv_iinc (v := iZ (q + 1)) (lv' := [(3, .int (iZ (q + 1))), (2, .int (iZ (z3))), (1, .int (iZ (0))), (0, .ref h0)]) hx hb dX10_opensOn_114 hl (k := 1) rfl (iZ_add _ _) (by decide) rfl (fun ls hl => ?_)
              refine lv_goto (tgt := 12) hx hb dX10_opensOn_117 (by decide) ?_
              exact ih (z3) (q + 1) μa H locs ls (by (first | ((try clear hd); (try clear hμ1); (try clear hμ4); (try clear hμ7); (try clear hμa); (try clear hμb); (try clear h1); (try clear hmv); (try clear az); (try clear bz); (try clear ar); (try clear br); (try clear hbq); (try clear hbn); (try clear an); (try clear bn); omega) | omega)) (by first | exact bf | exact af | exact hf) (by first | exact bb | exact ab | exact hb2) (by first | (have h8 := bn.1; have h9 := an.1; omega) | (have h9 := an.1; omega) | omega) (by
                                    first
                                      | exact hd
                                      | (rcases az with ⟨z1, z2, z3⟩ | ⟨z1, z2⟩
                                         · have bz9 := bz
                                           rcases bz with ⟨y1, y2, y3⟩ | ⟨y1, y2⟩
                                           · exact Or.inl y1
                                           · refine Or.inr ⟨y1, ?_⟩
                                             have h7 := bn.2 (br.2 (by (first | ((try clear hd); (try clear hμ1); (try clear hμ4); (try clear hμ7); (try clear hμa); (try clear hμb); (try clear h1); (try clear hmv); (try clear az); (try clear bz); (try clear ar); (try clear br); (try clear hbq); (try clear hbn); (try clear an); (try clear bn); omega) | omega)))
                                             have h9 := an.1
                                             omega
                                         · have bz9 := bz
                                           rcases bz with ⟨y1, y2, y3⟩ | ⟨y1, y2⟩
                                           · exact Or.inl y1
                                           · refine Or.inr ⟨y1, ?_⟩
                                             have h8 := bn.1
                                             rcases z2 with z2 | z2
                                             · have h9 := an.1
                                               rcases hd with hd | hd <;> omega
                                             · have h9 := an.2 (ar.2 z2)
                                               omega)
                                      | (rcases az with ⟨z1, z2, z3⟩ | ⟨z1, z2⟩
                                         · exact Or.inl z1
                                         · refine Or.inr ⟨z1, ?_⟩
                                           rcases z2 with z2 | z2
                                           · have h9 := an.1
                                             rcases hd with hd | hd <;> omega
                                           · have h9 := an.2 (ar.2 z2)
                                             omega)) (by (first | ((try clear hd); (try clear hμ1); (try clear hμ4); (try clear hμ7); (try clear hμa); (try clear hμb); (try clear h1); (try clear hmv); (try clear az); (try clear bz); (try clear ar); (try clear br); (try clear hbq); (try clear hbn); (try clear an); (try clear bn); omega) | omega)) hP hS (lv_sub hl [0, 1, 2, 3] rfl)
            · refine lv_iload_n hx hb dX10_opensOn_99 rfl (lv_at hl 0 rfl) ?_
              refine lv_aload_n hx hb dX10_opensOn_100 rfl (lv_at hl 3 rfl) ?_
              refine lv_aload_n hx hb dX10_opensOn_101 rfl (lv_at hl 3 rfl) ?_
              refine fz_get (D := (dC, dI)) (ci := 10) (v := .ref (h0 + 4413)) (C := RX10) (T := TX10) (N := 53) hx hb hts inG10 hown hK hP (k := 0) (by decide) (F := mF h0) mE_obj rfl 41 (by decide) (hts _ k1207) (fun _ h9 => h9) rfl dX10_opensOn_102 ?_
              refine lv_iload_n hx hb dX10_opensOn_105 rfl (lv_at hl 1 rfl) ?_
              refine fz_ld (k := 4413) (n := 1900) hx hb hK hP 0 (by decide) mE_other rfl ⟨by (first | ((try clear hd); (try clear hμ1); (try clear hμ4); (try clear hμ7); (try clear hμa); (try clear hμb); (try clear h1); (try clear hmv); (try clear az); (try clear bz); (try clear ar); (try clear br); (try clear hbq); (try clear hbn); (try clear an); (try clear bn); omega) | omega), by (first | ((try clear hd); (try clear hμ1); (try clear hμ4); (try clear hμ7); (try clear hμa); (try clear hμb); (try clear h1); (try clear hmv); (try clear az); (try clear bz); (try clear ar); (try clear br); (try clear hbq); (try clear hbn); (try clear an); (try clear bn); omega) | omega)⟩ (by decide) dX10_opensOn_106 ?_
              rw [show μa 4413 (q).toNat = μ 4413 q.toNat from (by exact a43)]
              refine lv_iconst (v := iZ 1) hx hb dX10_opensOn_107 rfl ?_
              refine lv_iadd hx hb dX10_opensOn_108 ?_
              refine lv_topi (fun x9 ex9 => ?_)
              obtain rfl : x9 = iZ ((μ 4413 q.toNat) + 1) := ex9.trans (iZ_add _ _)
              refine va_calli (va_runV (As := [.int (iZ ((μ 4413 q.toNat) + 1))]) (rest := [.int (iZ (z3))]) ⟨hx, hb, hml, hown, hts⟩ (m_turnsOn l dC dI cI cZ cII cIII h0 H.size μa ((μ 4413 q.toNat) + 1) (by first | assumption | ((try clear hd); (try clear hμ1); (try clear hμ4); (try clear hμ7); (try clear hμa); (try clear hμb); (try clear h1); (try clear hmv); (try clear az); (try clear bz); (try clear ar); (try clear br); (try clear hbq); (try clear hbn); (try clear an); (try clear bn); omega) | omega | exact ⟨by (first | ((try clear hd); (try clear hμ1); (try clear hμ4); (try clear hμ7); (try clear hμa); (try clear hμb); (try clear h1); (try clear hmv); (try clear az); (try clear bz); (try clear ar); (try clear br); (try clear hbq); (try clear hbn); (try clear an); (try clear bn); omega) | omega), by (first | ((try clear hd); (try clear hμ1); (try clear hμ4); (try clear hμ7); (try clear hμa); (try clear hμb); (try clear h1); (try clear hmv); (try clear az); (try clear bz); (try clear ar); (try clear br); (try clear hbq); (try clear hbn); (try clear an); (try clear bn); omega) | omega)⟩) (by exact ab (μ 4413 q.toNat + 1).toNat (by (first | ((try clear hd); (try clear hμ1); (try clear hμ4); (try clear hμ7); (try clear hμa); (try clear hμb); (try clear h1); (try clear hmv); (try clear az); (try clear bz); (try clear ar); (try clear br); (try clear hbq); (try clear hbn); (try clear an); (try clear bn); omega) | omega)))) (cwV 1 hts (gV_G k1655 k1657 ks_yX10_turnsOn k13 k1658) rfl rfl rfl (by decide +kernel) ⟨by show 1 + 1 ≤ _; omega, by show 8 + (3 + 11) + (14) ≤ _; omega⟩) ⟨fun a U g mk q => by obtain ⟨q0, q1, qP, qK⟩ := q; exact ⟨q0, q1, qP, va_K.moved (u := U) (U := U.calling g mk a) (Vm.Alike.refl U.vm) qK⟩, va_recv hK hP (ci := 10) (q0 := 0) rfl ((fw_get (by decide)).trans (by rw [mE_obj]; rfl)), fun U hU hW => ⟨rfl, by rw [hU], by rw [hU]; exact hP, va_K.moved hW.alike hK⟩⟩ rfl rfl hl.1 rfl (lv_room (Nat.le_of_ble_eq_true rfl)) dX10_opensOn_109 ⟨hRc, hRs⟩) hS (fun q _ h => fA_le hS.1 q h) (fA_le hS.1) (fun r9 u9 t9 H1 locs ht9 hvm9 hw9 hB9 hz9 hk9 hS => ?_)
              obtain ⟨μb, rb⟩ := u9
              obtain ⟨hP, -⟩ := hB9
              rw [ht9] at hP
              generalize H1 = H at hP hS ⊢
              obtain ⟨e9, hw9⟩ := hw9
              have e9 : r9 = iZ rb := e9
              subst e9
              simp only at hP hw9
              have hμb := hw9; clear hw9
              obtain ⟨b1, b2⟩ := hμb
              have bb : onB μb 6317 := by rw [b1]; exact onB_up ab
              have bf : fr OF μ0 μb := by rw [b1]; exact fr_uz af rfl
              have bn := nO_up (μ := μa) (q := (μ 4413 q.toNat + 1).toNat) ((μ0 0 39).toNat + 1) (by (first | ((try clear hd); (try clear hμ1); (try clear hμ4); (try clear hμ7); (try clear hμa); (try clear hμb); (try clear h1); (try clear hmv); (try clear az); (try clear bz); (try clear ar); (try clear br); (try clear hbq); (try clear hbn); (try clear an); (try clear bn); omega) | omega))
              rw [← b1] at bn
              have br : (rb = 0 ∨ rb = 1) ∧ (rb = 1 → μa 6317 ((μ 4413 q.toNat + 1).toNat) = 0) := by
                refine ⟨if_01 b2, fun h => ?_⟩
                exact if_get b2 (by (first | ((try clear hd); (try clear hμ1); (try clear hμ4); (try clear hμ7); (try clear hμa); (try clear hμb); (try clear h1); (try clear hmv); (try clear az); (try clear bz); (try clear ar); (try clear br); (try clear hbq); (try clear hbn); (try clear an); (try clear bn); omega) | omega))
              refine lv_ior hx hb dX10_opensOn_112 ?_
              refine lv_topi (fun x9 ex9 => ?_)
              obtain ⟨z6, rfl, hz6⟩ := iZ_ex x9
              have ez6 := ex9; clear ex9
              have bz := ior_b hz6 ez6 (show z3 = 0 ∨ z3 = 1 by (first | ((try clear hd); (try clear hμ1); (try clear hμ4); (try clear hμ7); (try clear hμa); (try clear hμb); (try clear h1); (try clear hmv); (try clear az); (try clear bz); (try clear ar); (try clear br); (try clear hbq); (try clear hbn); (try clear an); (try clear bn); omega) | omega)) br.1
              refine lv_istore_n (lv' := [(2, .int (iZ (z6))), (3, .int (iZ (q))), (1, .int (iZ (0))), (0, .ref h0)]) hx hb dX10_opensOn_113 rfl hl (by decide) rfl (fun ls hl => ?_)
              refine lv_iinc (v := iZ (q + 1)) (lv' := [(3, .int (iZ (q + 1))), (2, .int (iZ (z6))), (1, .int (iZ (0))), (0, .ref h0)]) hx hb dX10_opensOn_114 hl (k := 1) rfl (iZ_add _ _) (by decide) rfl (fun ls hl => ?_)
              refine lv_goto (tgt := 12) hx hb dX10_opensOn_117 (by decide) ?_
              exact ih (z6) (q + 1) μb H locs ls (by (first | ((try clear hd); (try clear hμ1); (try clear hμ4); (try clear hμ7); (try clear hμa); (try clear hμb); (try clear h1); (try clear hmv); (try clear az); (try clear bz); (try clear ar); (try clear br); (try clear hbq); (try clear hbn); (try clear an); (try clear bn); omega) | omega)) (by first | exact bf | exact af | exact hf) (by first | exact bb | exact ab | exact hb2) (by first | (have h8 := bn.1; have h9 := an.1; omega) | (have h9 := an.1; omega) | omega) (by
                                    first
                                      | exact hd
                                      | (rcases az with ⟨z1, z2, z3⟩ | ⟨z1, z2⟩
                                         · have bz9 := bz
                                           rcases bz with ⟨y1, y2, y3⟩ | ⟨y1, y2⟩
                                           · exact Or.inl y1
                                           · refine Or.inr ⟨y1, ?_⟩
                                             have h7 := bn.2 (br.2 (by (first | ((try clear hd); (try clear hμ1); (try clear hμ4); (try clear hμ7); (try clear hμa); (try clear hμb); (try clear h1); (try clear hmv); (try clear az); (try clear bz); (try clear ar); (try clear br); (try clear hbq); (try clear hbn); (try clear an); (try clear bn); omega) | omega)))
                                             have h9 := an.1
                                             omega
                                         · have bz9 := bz
                                           rcases bz with ⟨y1, y2, y3⟩ | ⟨y1, y2⟩
                                           · exact Or.inl y1
                                           · refine Or.inr ⟨y1, ?_⟩
                                             have h8 := bn.1
                                             rcases z2 with z2 | z2
                                             · have h9 := an.1
                                               rcases hd with hd | hd <;> omega
                                             · have h9 := an.2 (ar.2 z2)
                                               omega)
                                      | (rcases az with ⟨z1, z2, z3⟩ | ⟨z1, z2⟩
                                         · exact Or.inl z1
                                         · refine Or.inr ⟨z1, ?_⟩
                                           rcases z2 with z2 | z2
                                           · have h9 := an.1
                                             rcases hd with hd | hd <;> omega
                                           · have h9 := an.2 (ar.2 z2)
                                             omega)) (by (first | ((try clear hd); (try clear hμ1); (try clear hμ4); (try clear hμ7); (try clear hμa); (try clear hμb); (try clear h1); (try clear hmv); (try clear az); (try clear bz); (try clear ar); (try clear br); (try clear hbq); (try clear hbn); (try clear an); (try clear bn); omega) | omega)) hP hS (lv_sub hl [0, 1, 2, 3] rfl)
          · refine lv_aload_n hx hb dX10_opensOn_59 rfl (lv_at hl 3 rfl) ?_
            refine lv_iload_n hx hb dX10_opensOn_60 rfl (lv_at hl 1 rfl) ?_
            refine va_calli (va_runV (As := [.int (iZ (q))]) (rest := []) ⟨hx, hb, hml, hown, hts⟩ (m_isOption l dC dI cI cZ cII cIII h0 H.size μa (q) (by exact aO) (by (first | ((try clear hd); (try clear hμ1); (try clear hμ4); (try clear hμ7); (try clear hμa); (try clear hμb); (try clear h1); (try clear hmv); (try clear az); (try clear bz); (try clear ar); (try clear br); (try clear hbq); (try clear hbn); (try clear an); (try clear bn); omega) | omega))) (cwV 1 hts (gV_G k1520 k1522 ks_yX10_isOption k13 k1523) rfl rfl rfl (by decide +kernel) ⟨by show 1 + 1 ≤ _; omega, by show 8 + (2 + 11) + (14) ≤ _; omega⟩) ⟨fun a U g mk q => by obtain ⟨q0, q1, qP, qK⟩ := q; exact ⟨q0, q1, qP, va_K.moved (u := U) (U := U.calling g mk a) (Vm.Alike.refl U.vm) qK⟩, va_recv hK hP (ci := 10) (q0 := 0) rfl ((fw_get (by decide)).trans (by rw [mE_obj]; rfl)), fun U hU hW => ⟨rfl, by rw [hU], by rw [hU]; exact hP, va_K.moved hW.alike hK⟩⟩ rfl rfl hl.1 rfl (lv_room (Nat.le_of_ble_eq_true rfl)) dX10_opensOn_61 ⟨hRc, hRs⟩) hS (fun q _ h => fA_le hS.1 q h) (fA_le hS.1) (fun r9 u9 t9 H1 locs ht9 hvm9 hw9 hB9 hz9 hk9 hS => ?_)
            obtain ⟨μ7, r8⟩ := u9
            obtain ⟨hP, -⟩ := hB9
            rw [ht9] at hP
            generalize H1 = H at hP hS ⊢
            obtain ⟨e9, hw9⟩ := hw9
            have e9 : r9 = iZ r8 := e9
            subst e9
            simp only at hP hw9
            have hμ7 := hw9; clear hw9
            rw [hμ7.1] at hP; have hμ7 := hμ7.2
            refine fz_if_ne (tgt := 82) (by constructor <;> (first | ((try clear hd); (try clear hμ1); (try clear hμ4); (try clear hμ7); (try clear hμa); (try clear hμb); (try clear h1); (try clear hmv); (try clear az); (try clear bz); (try clear ar); (try clear br); (try clear hbq); (try clear hbn); (try clear an); (try clear bn); omega) | omega)) hx hb dX10_opensOn_64 (by decide) (fun c64_ => ?_) (fun c64_ => ?_)
            · refine lv_aload_n hx hb dX10_opensOn_82 rfl (lv_at hl 3 rfl) ?_
              refine fz_get (D := (dC, dI)) (ci := 10) (v := .ref (h0 + 4414)) (C := RX10) (T := TX10) (N := 53) hx hb hts inG10 hown hK hP (k := 0) (by decide) (F := mF h0) mE_obj rfl 42 (by decide) (hts _ k1208) (fun _ h9 => h9) rfl dX10_opensOn_83 ?_
              refine lv_iload_n hx hb dX10_opensOn_86 rfl (lv_at hl 1 rfl) ?_
              refine fz_zld (k := 4414) (n := 1900) hx hb hK hP 1 (by decide) mE_isEnd rfl ⟨by (first | ((try clear hd); (try clear hμ1); (try clear hμ4); (try clear hμ7); (try clear hμa); (try clear hμb); (try clear h1); (try clear hmv); (try clear az); (try clear bz); (try clear ar); (try clear br); (try clear hbq); (try clear hbn); (try clear an); (try clear bn); omega) | omega), by (first | ((try clear hd); (try clear hμ1); (try clear hμ4); (try clear hμ7); (try clear hμa); (try clear hμb); (try clear h1); (try clear hmv); (try clear az); (try clear bz); (try clear ar); (try clear br); (try clear hbq); (try clear hbn); (try clear an); (try clear bn); omega) | omega)⟩ (by decide) dX10_opensOn_87 ?_
              rw [show μa 4414 (q).toNat = μ 4414 q.toNat from (by first | exact a44 | (rw [b1, uz_n (by (first | ((try clear hd); (try clear hμ1); (try clear hμ4); (try clear hμ7); (try clear hμa); (try clear hμb); (try clear h1); (try clear hmv); (try clear az); (try clear bz); (try clear ar); (try clear br); (try clear hbq); (try clear hbn); (try clear an); (try clear bn); omega) | omega))]; exact a44))]
              refine fz_if_ne (tgt := 114) (by constructor <;> (first | ((try clear hd); (try clear hμ1); (try clear hμ4); (try clear hμ7); (try clear hμa); (try clear hμb); (try clear h1); (try clear hmv); (try clear az); (try clear bz); (try clear ar); (try clear br); (try clear hbq); (try clear hbn); (try clear an); (try clear bn); omega) | omega)) hx hb dX10_opensOn_88 (by decide) (fun c88_ => ?_) (fun h9 => (by (first | ((try clear hd); (try clear hμ1); (try clear hμ4); (try clear hμ7); (try clear hμa); (try clear hμb); (try clear h1); (try clear hmv); (try clear az); (try clear bz); (try clear ar); (try clear br); (try clear hbq); (try clear hbn); (try clear an); (try clear bn); omega) | omega)))
              refine lv_iinc (v := iZ (q + 1)) (lv' := [(3, .int (iZ (q + 1))), (2, .int (iZ (z3))), (1, .int (iZ (0))), (0, .ref h0)]) hx hb dX10_opensOn_114 hl (k := 1) rfl (iZ_add _ _) (by decide) rfl (fun ls hl => ?_)
              refine lv_goto (tgt := 12) hx hb dX10_opensOn_117 (by decide) ?_
              exact ih (z3) (q + 1) μa H locs ls (by (first | ((try clear hd); (try clear hμ1); (try clear hμ4); (try clear hμ7); (try clear hμa); (try clear hμb); (try clear h1); (try clear hmv); (try clear az); (try clear bz); (try clear ar); (try clear br); (try clear hbq); (try clear hbn); (try clear an); (try clear bn); omega) | omega)) (by first | exact bf | exact af | exact hf) (by first | exact bb | exact ab | exact hb2) (by first | (have h8 := bn.1; have h9 := an.1; omega) | (have h9 := an.1; omega) | omega) (by
                                    first
                                      | exact hd
                                      | (rcases az with ⟨z1, z2, z3⟩ | ⟨z1, z2⟩
                                         · have bz9 := bz
                                           rcases bz with ⟨y1, y2, y3⟩ | ⟨y1, y2⟩
                                           · exact Or.inl y1
                                           · refine Or.inr ⟨y1, ?_⟩
                                             have h7 := bn.2 (br.2 (by (first | ((try clear hd); (try clear hμ1); (try clear hμ4); (try clear hμ7); (try clear hμa); (try clear hμb); (try clear h1); (try clear hmv); (try clear az); (try clear bz); (try clear ar); (try clear br); (try clear hbq); (try clear hbn); (try clear an); (try clear bn); omega) | omega)))
                                             have h9 := an.1
                                             omega
                                         · have bz9 := bz
                                           rcases bz with ⟨y1, y2, y3⟩ | ⟨y1, y2⟩
                                           · exact Or.inl y1
                                           · refine Or.inr ⟨y1, ?_⟩
                                             have h8 := bn.1
                                             rcases z2 with z2 | z2
                                             · have h9 := an.1
                                               rcases hd with hd | hd <;> omega
                                             · have h9 := an.2 (ar.2 z2)
                                               omega)
                                      | (rcases az with ⟨z1, z2, z3⟩ | ⟨z1, z2⟩
                                         · exact Or.inl z1
                                         · refine Or.inr ⟨z1, ?_⟩
                                           rcases z2 with z2 | z2
                                           · have h9 := an.1
                                             rcases hd with hd | hd <;> omega
                                           · have h9 := an.2 (ar.2 z2)
                                             omega)) (by (first | ((try clear hd); (try clear hμ1); (try clear hμ4); (try clear hμ7); (try clear hμa); (try clear hμb); (try clear h1); (try clear hmv); (try clear az); (try clear bz); (try clear ar); (try clear br); (try clear hbq); (try clear hbn); (try clear an); (try clear bn); omega) | omega)) hP hS (lv_sub hl [0, 1, 2, 3] rfl)
            · refine lv_iload_n hx hb dX10_opensOn_67 rfl (lv_at hl 0 rfl) ?_
              refine lv_aload_n hx hb dX10_opensOn_68 rfl (lv_at hl 3 rfl) ?_
              refine lv_aload_n hx hb dX10_opensOn_69 rfl (lv_at hl 3 rfl) ?_
              refine fz_get (D := (dC, dI)) (ci := 10) (v := .ref (h0 + 4413)) (C := RX10) (T := TX10) (N := 53) hx hb hts inG10 hown hK hP (k := 0) (by decide) (F := mF h0) mE_obj rfl 41 (by decide) (hts _ k1207) (fun _ h9 => h9) rfl dX10_opensOn_70 ?_
              refine lv_iload_n hx hb dX10_opensOn_73 rfl (lv_at hl 1 rfl) ?_
              refine fz_ld (k := 4413) (n := 1900) hx hb hK hP 0 (by decide) mE_other rfl ⟨by (first | ((try clear hd); (try clear hμ1); (try clear hμ4); (try clear hμ7); (try clear hμa); (try clear hμb); (try clear h1); (try clear hmv); (try clear az); (try clear bz); (try clear ar); (try clear br); (try clear hbq); (try clear hbn); (try clear an); (try clear bn); omega) | omega), by (first | ((try clear hd); (try clear hμ1); (try clear hμ4); (try clear hμ7); (try clear hμa); (try clear hμb); (try clear h1); (try clear hmv); (try clear az); (try clear bz); (try clear ar); (try clear br); (try clear hbq); (try clear hbn); (try clear an); (try clear bn); omega) | omega)⟩ (by decide) dX10_opensOn_74 ?_
              rw [show μa 4413 (q).toNat = μ 4413 q.toNat from (by exact a43)]
              refine lv_iconst (v := iZ 1) hx hb dX10_opensOn_75 rfl ?_
              refine lv_iadd hx hb dX10_opensOn_76 ?_
              refine lv_topi (fun x9 ex9 => ?_)
              obtain rfl : x9 = iZ ((μ 4413 q.toNat) + 1) := ex9.trans (iZ_add _ _)
              refine va_calli (va_runV (As := [.int (iZ ((μ 4413 q.toNat) + 1))]) (rest := [.int (iZ (z3))]) ⟨hx, hb, hml, hown, hts⟩ (m_turnsOn l dC dI cI cZ cII cIII h0 H.size μa ((μ 4413 q.toNat) + 1) (by first | assumption | ((try clear hd); (try clear hμ1); (try clear hμ4); (try clear hμ7); (try clear hμa); (try clear hμb); (try clear h1); (try clear hmv); (try clear az); (try clear bz); (try clear ar); (try clear br); (try clear hbq); (try clear hbn); (try clear an); (try clear bn); omega) | omega | exact ⟨by (first | ((try clear hd); (try clear hμ1); (try clear hμ4); (try clear hμ7); (try clear hμa); (try clear hμb); (try clear h1); (try clear hmv); (try clear az); (try clear bz); (try clear ar); (try clear br); (try clear hbq); (try clear hbn); (try clear an); (try clear bn); omega) | omega), by (first | ((try clear hd); (try clear hμ1); (try clear hμ4); (try clear hμ7); (try clear hμa); (try clear hμb); (try clear h1); (try clear hmv); (try clear az); (try clear bz); (try clear ar); (try clear br); (try clear hbq); (try clear hbn); (try clear an); (try clear bn); omega) | omega)⟩) (by exact ab (μ 4413 q.toNat + 1).toNat (by (first | ((try clear hd); (try clear hμ1); (try clear hμ4); (try clear hμ7); (try clear hμa); (try clear hμb); (try clear h1); (try clear hmv); (try clear az); (try clear bz); (try clear ar); (try clear br); (try clear hbq); (try clear hbn); (try clear an); (try clear bn); omega) | omega)))) (cwV 1 hts (gV_G k1655 k1657 ks_yX10_turnsOn k13 k1658) rfl rfl rfl (by decide +kernel) ⟨by show 1 + 1 ≤ _; omega, by show 8 + (3 + 11) + (14) ≤ _; omega⟩) ⟨fun a U g mk q => by obtain ⟨q0, q1, qP, qK⟩ := q; exact ⟨q0, q1, qP, va_K.moved (u := U) (U := U.calling g mk a) (Vm.Alike.refl U.vm) qK⟩, va_recv hK hP (ci := 10) (q0 := 0) rfl ((fw_get (by decide)).trans (by rw [mE_obj]; rfl)), fun U hU hW => ⟨rfl, by rw [hU], by rw [hU]; exact hP, va_K.moved hW.alike hK⟩⟩ rfl rfl hl.1 rfl (lv_room (Nat.le_of_ble_eq_true rfl)) dX10_opensOn_77 ⟨hRc, hRs⟩) hS (fun q _ h => fA_le hS.1 q h) (fA_le hS.1) (fun r9 u9 t9 H1 locs ht9 hvm9 hw9 hB9 hz9 hk9 hS => ?_)
              obtain ⟨μb, rb⟩ := u9
              obtain ⟨hP, -⟩ := hB9
              rw [ht9] at hP
              generalize H1 = H at hP hS ⊢
              obtain ⟨e9, hw9⟩ := hw9
              have e9 : r9 = iZ rb := e9
              subst e9
              simp only at hP hw9
              have hμb := hw9; clear hw9
              obtain ⟨b1, b2⟩ := hμb
              have bb : onB μb 6317 := by rw [b1]; exact onB_up ab
              have bf : fr OF μ0 μb := by rw [b1]; exact fr_uz af rfl
              have bn := nO_up (μ := μa) (q := (μ 4413 q.toNat + 1).toNat) ((μ0 0 39).toNat + 1) (by (first | ((try clear hd); (try clear hμ1); (try clear hμ4); (try clear hμ7); (try clear hμa); (try clear hμb); (try clear h1); (try clear hmv); (try clear az); (try clear bz); (try clear ar); (try clear br); (try clear hbq); (try clear hbn); (try clear an); (try clear bn); omega) | omega))
              rw [← b1] at bn
              have br : (rb = 0 ∨ rb = 1) ∧ (rb = 1 → μa 6317 ((μ 4413 q.toNat + 1).toNat) = 0) := by
                refine ⟨if_01 b2, fun h => ?_⟩
                exact if_get b2 (by (first | ((try clear hd); (try clear hμ1); (try clear hμ4); (try clear hμ7); (try clear hμa); (try clear hμb); (try clear h1); (try clear hmv); (try clear az); (try clear bz); (try clear ar); (try clear br); (try clear hbq); (try clear hbn); (try clear an); (try clear bn); omega) | omega))
              refine lv_ior hx hb dX10_opensOn_80 ?_
              refine lv_topi (fun x9 ex9 => ?_)
              obtain ⟨z10, rfl, hz10⟩ := iZ_ex x9
              have ez10 := ex9; clear ex9
              have bz := ior_b hz10 ez10 (show z3 = 0 ∨ z3 = 1 by (first | ((try clear hd); (try clear hμ1); (try clear hμ4); (try clear hμ7); (try clear hμa); (try clear hμb); (try clear h1); (try clear hmv); (try clear az); (try clear bz); (try clear ar); (try clear br); (try clear hbq); (try clear hbn); (try clear an); (try clear bn); omega) | omega)) br.1
              refine lv_istore_n (lv' := [(2, .int (iZ (z10))), (3, .int (iZ (q))), (1, .int (iZ (0))), (0, .ref h0)]) hx hb dX10_opensOn_81 rfl hl (by decide) rfl (fun ls hl => ?_)
              refine lv_aload_n hx hb dX10_opensOn_82 rfl (lv_at hl 3 rfl) ?_
              refine fz_get (D := (dC, dI)) (ci := 10) (v := .ref (h0 + 4414)) (C := RX10) (T := TX10) (N := 53) hx hb hts inG10 hown hK hP (k := 0) (by decide) (F := mF h0) mE_obj rfl 42 (by decide) (hts _ k1208) (fun _ h9 => h9) rfl dX10_opensOn_83 ?_
              refine lv_iload_n hx hb dX10_opensOn_86 rfl (lv_at hl 1 rfl) ?_
              refine fz_zld (k := 4414) (n := 1900) hx hb hK hP 1 (by decide) mE_isEnd rfl ⟨by (first | ((try clear hd); (try clear hμ1); (try clear hμ4); (try clear hμ7); (try clear hμa); (try clear hμb); (try clear h1); (try clear hmv); (try clear az); (try clear bz); (try clear ar); (try clear br); (try clear hbq); (try clear hbn); (try clear an); (try clear bn); omega) | omega), by (first | ((try clear hd); (try clear hμ1); (try clear hμ4); (try clear hμ7); (try clear hμa); (try clear hμb); (try clear h1); (try clear hmv); (try clear az); (try clear bz); (try clear ar); (try clear br); (try clear hbq); (try clear hbn); (try clear an); (try clear bn); omega) | omega)⟩ (by decide) dX10_opensOn_87 ?_
              rw [show μb 4414 (q).toNat = μ 4414 q.toNat from (by first | exact a44 | (rw [b1, uz_n (by (first | ((try clear hd); (try clear hμ1); (try clear hμ4); (try clear hμ7); (try clear hμa); (try clear hμb); (try clear h1); (try clear hmv); (try clear az); (try clear bz); (try clear ar); (try clear br); (try clear hbq); (try clear hbn); (try clear an); (try clear bn); omega) | omega))]; exact a44))]
              refine fz_if_ne (tgt := 114) (by constructor <;> (first | ((try clear hd); (try clear hμ1); (try clear hμ4); (try clear hμ7); (try clear hμa); (try clear hμb); (try clear h1); (try clear hmv); (try clear az); (try clear bz); (try clear ar); (try clear br); (try clear hbq); (try clear hbn); (try clear an); (try clear bn); omega) | omega)) hx hb dX10_opensOn_88 (by decide) (fun c88_ => ?_) (fun h9 => (by (first | ((try clear hd); (try clear hμ1); (try clear hμ4); (try clear hμ7); (try clear hμa); (try clear hμb); (try clear h1); (try clear hmv); (try clear az); (try clear bz); (try clear ar); (try clear br); (try clear hbq); (try clear hbn); (try clear an); (try clear bn); omega) | omega)))
              refine lv_iinc (v := iZ (q + 1)) (lv' := [(3, .int (iZ (q + 1))), (2, .int (iZ (z10))), (1, .int (iZ (0))), (0, .ref h0)]) hx hb dX10_opensOn_114 hl (k := 1) rfl (iZ_add _ _) (by decide) rfl (fun ls hl => ?_)
              refine lv_goto (tgt := 12) hx hb dX10_opensOn_117 (by decide) ?_
              exact ih (z10) (q + 1) μb H locs ls (by (first | ((try clear hd); (try clear hμ1); (try clear hμ4); (try clear hμ7); (try clear hμa); (try clear hμb); (try clear h1); (try clear hmv); (try clear az); (try clear bz); (try clear ar); (try clear br); (try clear hbq); (try clear hbn); (try clear an); (try clear bn); omega) | omega)) (by first | exact bf | exact af | exact hf) (by first | exact bb | exact ab | exact hb2) (by first | (have h8 := bn.1; have h9 := an.1; omega) | (have h9 := an.1; omega) | omega) (by
                                    first
                                      | exact hd
                                      | (rcases az with ⟨z1, z2, z3⟩ | ⟨z1, z2⟩
                                         · have bz9 := bz
                                           rcases bz with ⟨y1, y2, y3⟩ | ⟨y1, y2⟩
                                           · exact Or.inl y1
                                           · refine Or.inr ⟨y1, ?_⟩
                                             have h7 := bn.2 (br.2 (by (first | ((try clear hd); (try clear hμ1); (try clear hμ4); (try clear hμ7); (try clear hμa); (try clear hμb); (try clear h1); (try clear hmv); (try clear az); (try clear bz); (try clear ar); (try clear br); (try clear hbq); (try clear hbn); (try clear an); (try clear bn); omega) | omega)))
                                             have h9 := an.1
                                             omega
                                         · have bz9 := bz
                                           rcases bz with ⟨y1, y2, y3⟩ | ⟨y1, y2⟩
                                           · exact Or.inl y1
                                           · refine Or.inr ⟨y1, ?_⟩
                                             have h8 := bn.1
                                             rcases z2 with z2 | z2
                                             · have h9 := an.1
                                               rcases hd with hd | hd <;> omega
                                             · have h9 := an.2 (ar.2 z2)
                                               omega)
                                      | (rcases az with ⟨z1, z2, z3⟩ | ⟨z1, z2⟩
                                         · exact Or.inl z1
                                         · refine Or.inr ⟨z1, ?_⟩
                                           rcases z2 with z2 | z2
                                           · have h9 := an.1
                                             rcases hd with hd | hd <;> omega
                                           · have h9 := an.2 (ar.2 z2)
                                             omega)) (by (first | ((try clear hd); (try clear hμ1); (try clear hμ4); (try clear hμ7); (try clear hμa); (try clear hμb); (try clear h1); (try clear hmv); (try clear az); (try clear bz); (try clear ar); (try clear br); (try clear hbq); (try clear hbn); (try clear an); (try clear bn); omega) | omega)) hP hS (lv_sub hl [0, 1, 2, 3] rfl)
        · refine lv_goto (tgt := 114) hx hb dX10_opensOn_37 (by decide) ?_
          refine lv_iinc (v := iZ (q + 1)) (lv' := [(3, .int (iZ (q + 1))), (2, .int (iZ (mv))), (1, .int (iZ (0))), (0, .ref h0)]) hx hb dX10_opensOn_114 hl (k := 0) rfl (iZ_add _ _) (by decide) rfl (fun ls hl => ?_)
          refine lv_goto (tgt := 12) hx hb dX10_opensOn_117 (by decide) ?_
          exact ih (mv) (q + 1) μ H locs ls (by (first | ((try clear hd); (try clear hμ1); (try clear hμ4); (try clear hμ7); (try clear hμa); (try clear hμb); (try clear h1); (try clear hmv); (try clear az); (try clear bz); (try clear ar); (try clear br); (try clear hbq); (try clear hbn); (try clear an); (try clear bn); omega) | omega)) (by first | exact bf | exact af | exact hf) (by first | exact bb | exact ab | exact hb2) (by first | (have h8 := bn.1; have h9 := an.1; omega) | (have h9 := an.1; omega) | omega) (by
                            first
                              | exact hd
                              | (rcases az with ⟨z1, z2, z3⟩ | ⟨z1, z2⟩
                                 · have bz9 := bz
                                   rcases bz with ⟨y1, y2, y3⟩ | ⟨y1, y2⟩
                                   · exact Or.inl y1
                                   · refine Or.inr ⟨y1, ?_⟩
                                     have h7 := bn.2 (br.2 (by (first | ((try clear hd); (try clear hμ1); (try clear hμ4); (try clear hμ7); (try clear hμa); (try clear hμb); (try clear h1); (try clear hmv); (try clear az); (try clear bz); (try clear ar); (try clear br); (try clear hbq); (try clear hbn); (try clear an); (try clear bn); omega) | omega)))
                                     have h9 := an.1
                                     omega
                                 · have bz9 := bz
                                   rcases bz with ⟨y1, y2, y3⟩ | ⟨y1, y2⟩
                                   · exact Or.inl y1
                                   · refine Or.inr ⟨y1, ?_⟩
                                     have h8 := bn.1
                                     rcases z2 with z2 | z2
                                     · have h9 := an.1
                                       rcases hd with hd | hd <;> omega
                                     · have h9 := an.2 (ar.2 z2)
                                       omega)
                              | (rcases az with ⟨z1, z2, z3⟩ | ⟨z1, z2⟩
                                 · exact Or.inl z1
                                 · refine Or.inr ⟨z1, ?_⟩
                                   rcases z2 with z2 | z2
                                   · have h9 := an.1
                                     rcases hd with hd | hd <;> omega
                                   · have h9 := an.2 (ar.2 z2)
                                     omega)) (by (first | ((try clear hd); (try clear hμ1); (try clear hμ4); (try clear hμ7); (try clear hμa); (try clear hμb); (try clear h1); (try clear hmv); (try clear az); (try clear bz); (try clear ar); (try clear br); (try clear hbq); (try clear hbn); (try clear an); (try clear bn); omega) | omega)) hP hS (lv_sub hl [0, 1, 2, 3] rfl)
set_option maxHeartbeats 4000000 in
set_option maxRecDepth 100000 in
theorem LX10_opensOn_4 {p : Program} {l : Launch} {e : Env} {R : Room} {s : State} {m : MethodId} {args : Array Value} {below : List Frame} {meth : Method} {c : Code} {cells slots : Nat} {Q : State → Prop} {dC : Nat → ClassId} {dI : Nat → Nat → Nat} {h0 : Nat} {cI cZ cII cIII : ClassId} (hx : p.tables.exec = Jvm.exec) (hb : c.code = cX10_opensOn) (hml : c.maxLocals = 4) (hown : s.vm.findClass RX10 = some m.cls) (hts : ∀ w ∈ wsG, w.before args s = true) (hK : va_K (dC, dI) vwCl (mT cI cZ cII cIII) s) (hRf : 3 ≤ R.frames) (hRl : 60 ≤ R.locals) (hRc : cells ≤ R.cells) (hRs : slots ≤ R.slots) (μ0 : va_M) (hO : stOK μ0) (hexit123 : ∀ (mv : Int) (μ : va_M) (H : Heap) (locs : List Loc) (ls : Array Slot), (fr OF μ0 μ) → (onB μ 6317) → va_P (dC, dI) vwCl (fw (mE cI cZ cII cIII h0) h0 6325 μ) H → va_S (fA h0 6325 s.heap.size) s.heap H locs → lv_has ls 4 [(1, .int (iZ (0))), (0, .ref h0)] → W p l e R s m args below meth c H locs cells slots Q (F0 m 123 ls [])) :
    ∀ (n9 : Nat) (mv : Int) (μ : va_M) (H : Heap) (locs : List Loc) (ls : Array Slot), (fr OF μ0 μ) → (onB μ 6317) → (mv = 0 ∨ mv = 1) → 2 * nO μ ((μ0 0 39).toNat + 1) + mv.toNat < n9 → va_P (dC, dI) vwCl (fw (mE cI cZ cII cIII h0) h0 6325 μ) H → va_S (fA h0 6325 s.heap.size) s.heap H locs → lv_has ls 4 [(2, .int (iZ (mv))), (1, .int (iZ (0))), (0, .ref h0)] → W p l e R s m args below meth c H locs cells slots Q (F0 m 4 ls []) := by
  intro n9
  induction n9 with
  | zero => intro mv μ H locs ls hf hb2 hd hm9 hP hS hl; exact absurd hm9 (Nat.not_lt_zero _)
  | succ n9 ih =>
    intro mv μ H locs ls hf hb2 hd hm9 hP hS hl
    have e39 : μ 0 39 = μ0 0 39 := hf 0 39 (by unfold OF; omega)
    have hO1 := stOK_OF hO hf
    have hb1_ := hO.1
    have hb2_ := hO.2.1
    refine lv_iload_n hx hb dX10_opensOn_4 rfl (lv_at hl 0 rfl) ?_
    refine fz_if_eq (tgt := 123) (by constructor <;> (first | ((try clear hd); omega) | omega)) hx hb dX10_opensOn_5 (by decide) (fun c5_ => ?_) (fun c5_ => ?_)
    · exact hexit123 (mv) μ H locs ls (by exact hf) (by exact hb2) hP hS (lv_sub hl [1, 2] rfl)
    · refine lv_iconst (v := iZ 0) hx hb dX10_opensOn_8 rfl ?_
      refine lv_istore_n (lv' := [(2, .int (iZ (0))), (1, .int (iZ (0))), (0, .ref h0)]) hx hb dX10_opensOn_9 rfl hl (by decide) rfl (fun ls hl => ?_)
      refine lv_iconst (v := iZ 0) hx hb dX10_opensOn_10 rfl ?_
      refine lv_istore_n (lv' := [(3, .int (iZ (0))), (2, .int (iZ (0))), (1, .int (iZ (0))), (0, .ref h0)]) hx hb dX10_opensOn_11 rfl hl (by decide) rfl (fun ls hl => ?_)
      refine LX10_opensOn_12 hx hb hml hown hts hK hRf hRl hRc hRs (μ0) (nO μ ((μ0 0 39).toNat + 1)) (by assumption) ?_ _ (0) (0) μ H locs ls (by (first | ((try clear hd); omega) | omega)) (by exact hf) (by exact hb2) (by exact Nat.le_refl _) (by exact Or.inl rfl) (Nat.lt_succ_self _) hP hS (lv_sub hl [0, 1, 2, 3] rfl)
      · intro mv_11 q_11 μ11_ H locs ls q1_11 q2_11 q3_11 hP hS hl
        have hl : lv_has ls 4 [(2, .int (iZ (mv_11))), (1, .int (iZ (0))), (0, .ref h0)] := hl
        refine lv_goto (tgt := 4) hx hb dX10_opensOn_120 (by decide) ?_
        exact ih (mv_11) μ11_ H locs ls (by exact q1_11) (by exact q2_11) (by have h9 := (q3_11).2; omega) (by have h9 := q3_11; omega) hP hS (lv_sub hl [0, 1, 2] rfl)
set_option maxHeartbeats 4000000 in
set_option maxRecDepth 100000 in
theorem LX10_opensOn_125 {p : Program} {l : Launch} {e : Env} {R : Room} {s : State} {m : MethodId} {args : Array Value} {below : List Frame} {meth : Method} {c : Code} {cells slots : Nat} {Q : State → Prop} {dC : Nat → ClassId} {dI : Nat → Nat → Nat} {h0 : Nat} {cI cZ cII cIII : ClassId} (hx : p.tables.exec = Jvm.exec) (hb : c.code = cX10_opensOn) (hml : c.maxLocals = 4) (hown : s.vm.findClass RX10 = some m.cls) (hts : ∀ w ∈ wsG, w.before args s = true) (hK : va_K (dC, dI) vwCl (mT cI cZ cII cIII) s) (hRf : 3 ≤ R.frames) (hRl : 60 ≤ R.locals) (hRc : cells ≤ R.cells) (hRs : slots ≤ R.slots) (μ0 : va_M) (hO : stOK μ0) (hb2 : onB μ0 6317) (hexit148 : ∀ (an : Int) (q : Int) (μ : va_M) (H : Heap) (locs : List Loc) (ls : Array Slot), (μ = μ0) → (an = 0 ∨ an = 1) → va_P (dC, dI) vwCl (fw (mE cI cZ cII cIII h0) h0 6325 μ) H → va_S (fA h0 6325 s.heap.size) s.heap H locs → lv_has ls 4 [(1, .int (iZ (an)))] → W p l e R s m args below meth c H locs cells slots Q (F0 m 148 ls [])) :
    ∀ (n9 : Nat) (an : Int) (q : Int) (μ : va_M) (H : Heap) (locs : List Loc) (ls : Array Slot), (μ = μ0) → (0 ≤ q ∧ q ≤ μ0 0 39 + 1) → (an = 0 ∨ an = 1) → (2000 - q).toNat < n9 → va_P (dC, dI) vwCl (fw (mE cI cZ cII cIII h0) h0 6325 μ) H → va_S (fA h0 6325 s.heap.size) s.heap H locs → lv_has ls 4 [(3, .int (iZ (q))), (1, .int (iZ (an))), (0, .ref h0)] → W p l e R s m args below meth c H locs cells slots Q (F0 m 125 ls []) := by
  intro n9
  induction n9 with
  | zero => intro an q μ H locs ls hm hq ha hm9 hP hS hl; exact absurd hm9 (Nat.not_lt_zero _)
  | succ n9 ih =>
    intro an q μ H locs ls hm hq ha hm9 hP hS hl
    subst hm
    have hb1_ := hO.1
    have hb2_ := hO.2.1
    refine lv_iload_n hx hb dX10_opensOn_125 rfl (lv_at hl 0 rfl) ?_
    refine lv_aload_n hx hb dX10_opensOn_126 rfl (lv_at hl 2 rfl) ?_
    refine fz_get (D := (dC, dI)) (ci := 10) (v := .int (iZ (μ 0 39))) (C := RX10) (T := TX10) (N := 53) hx hb hts inG10 hown hK hP (k := 0) (by decide) (F := mF h0) mE_obj rfl 39 (by decide) (hts _ k1205) (fun _ h9 => h9) rfl dX10_opensOn_127 ?_
    refine fz_icmp_gt (tgt := 148) (by constructor <;> (first | ((try clear ha); omega) | omega)) (by constructor <;> (first | ((try clear ha); omega) | omega)) hx hb dX10_opensOn_130 (by decide) (fun c130_ => ?_) (fun c130_ => ?_)
    · exact hexit148 (an) (q) μ H locs ls (by rfl) (by exact ha) hP hS (lv_sub hl [1] rfl)
    · have hbq := hb2 q.toNat (by (first | ((try clear ha); omega) | omega))
      refine lv_iload_n hx hb dX10_opensOn_133 rfl (lv_at hl 1 rfl) ?_
      refine lv_aload_n hx hb dX10_opensOn_134 rfl (lv_at hl 2 rfl) ?_
      refine fz_get (D := (dC, dI)) (ci := 10) (v := .ref (h0 + 6317)) (C := RX10) (T := TX10) (N := 53) hx hb hts inG10 hown hK hP (k := 0) (by decide) (F := mF h0) mE_obj rfl 45 (by decide) (hts _ k1211) (fun _ h9 => h9) rfl dX10_opensOn_135 ?_
      refine lv_iload_n hx hb dX10_opensOn_138 rfl (lv_at hl 0 rfl) ?_
      refine fz_zld (k := 6317) (n := 1900) hx hb hK hP 1 (by decide) mE_isOn rfl ⟨by (first | ((try clear ha); omega) | omega), by (first | ((try clear ha); omega) | omega)⟩ (by decide) dX10_opensOn_139 ?_
      refine lv_ior hx hb dX10_opensOn_140 ?_
      refine lv_topi (fun x9 ex9 => ?_)
      obtain ⟨z12, rfl, hz12⟩ := iZ_ex x9
      have ez12 := ex9; clear ex9
      refine lv_istore_n (lv' := [(1, .int (iZ (z12))), (3, .int (iZ (q))), (0, .ref h0)]) hx hb dX10_opensOn_141 rfl hl (by decide) rfl (fun ls hl => ?_)
      refine lv_iinc (v := iZ (q + 1)) (lv' := [(3, .int (iZ (q + 1))), (1, .int (iZ (z12))), (0, .ref h0)]) hx hb dX10_opensOn_142 hl (k := 1) rfl (iZ_add _ _) (by decide) rfl (fun ls hl => ?_)
      refine lv_goto (tgt := 125) hx hb dX10_opensOn_145 (by decide) ?_
      exact ih (z12) (q + 1) μ H locs ls (by rfl) (by (first | ((try clear ha); omega) | omega)) (by
                    have h9 := ior_b hz12 ez12 ha hbq
                    omega) (by (first | ((try clear ha); omega) | omega)) hP hS (lv_sub hl [0, 1, 2] rfl)
set_option maxHeartbeats 4000000 in
set_option maxRecDepth 100000 in
theorem m_opensOn (l : Launch) (dC : Nat → ClassId) (dI : Nat → Nat → Nat) (cI cZ cII cIII : ClassId) (h0 sz : Nat) (μ : va_M)  (hO : stOK μ) (hb2 : onB μ 6317) : Met l yX10_opensOn (Cond.code yX10_opensOn cX10_opensOn 4 (some .boolean) :: wsG) ({ frames := 3, cells := 0, slots := 0, locals := 60 } : Room) (va_Pc [.ref h0] (fun U => U.heap.size = sz ∧ va_P (dC, dI) vwCl (fw (mE cI cZ cII cIII h0) h0 6325 μ) U.heap ∧ va_K (dC, dI) vwCl (mT cI cZ cII cIII) U)) (va_Qi (fun (r9 : Int32) (u : va_M × Int) => r9 = iZ u.2 ∧ (fun (u : va_M) (r : Int) => fr OF μ u ∧ onB u 6317) u.1 u.2) (fun u t => va_P (dC, dI) vwCl (fw (mE cI cZ cII cIII h0) h0 6325 u.1) t.heap ∧ va_K (dC, dI) vwCl (mT cI cZ cII cIII) t) (fA h0 6325 sz)) 0 0 (fA h0 6325 sz) := by
  refine Met.ofW (cc := cX10_opensOn) (maxL := 4) (ret := (some .boolean)) (by decide) rfl ?_
  intro p e s m args below meth c s₁ B hml hv
  obtain ⟨rfl, hsz, hP, hK⟩ := hv
  have hx := B.exec
  have hb := B.bytes
  have hr := B.returns
  have hts : ∀ w ∈ wsG, w.before _ s = true := hG_of (atoms_spec (ws := (Cond.code yX10_opensOn cX10_opensOn 4 (some .boolean) :: wsG)) B.pre)
  have hown : s.vm.findClass RX10 = some m.cls := findClass_of_methodNamed B.named
  have hlocks := B.notSynchronized
  subst hsz
  have hS : va_S (fA h0 6325 s.heap.size) s.heap s.heap [] := va_S.rf
  have hl := lv_entry ([.ref h0]) (n := 4) (Nat.le_of_ble_eq_true rfl)
  rw [lg_entry_eq]
  generalize (lg_sl ([.ref h0]) ++ List.replicate (4 - (lg_sl ([.ref h0])).length) Slot.unset).toArray = ls at hl ⊢
  have hl : lv_has ls 4 [(0, .ref h0)] := hl
  refine lv_iconst (v := iZ 0) hx hb dX10_opensOn_0 rfl ?_
  refine lv_istore_n (lv' := [(1, .int (iZ (0))), (0, .ref h0)]) hx hb dX10_opensOn_1 rfl hl (by decide) rfl (fun ls hl => ?_)
  refine lv_iconst (v := iZ 1) hx hb dX10_opensOn_2 rfl ?_
  refine lv_istore_n (lv' := [(2, .int (iZ (1))), (1, .int (iZ (0))), (0, .ref h0)]) hx hb dX10_opensOn_3 rfl hl (by decide) rfl (fun ls hl => ?_)
  refine LX10_opensOn_4 hx hb hml hown hts hK (Nat.le_of_ble_eq_true rfl) (Nat.le_of_ble_eq_true rfl) (Nat.le_of_ble_eq_true rfl) (Nat.le_of_ble_eq_true rfl) (μ) (by exact hO) ?_ _ (1) μ s.heap [] ls (by exact fr_rfl) (by exact hb2) (by exact Or.inr rfl) (Nat.lt_succ_self _) hP hS (lv_sub hl [0, 1, 2] rfl)
  · intro mv_13 μ13_ H locs ls q4_13 q5_13 hP hS hl
    have hl : lv_has ls 4 [(1, .int (iZ (0))), (0, .ref h0)] := hl
    have cO := stOK_OF hO q4_13
    refine lv_iconst (v := iZ 0) hx hb dX10_opensOn_123 rfl ?_
    refine lv_istore_n (lv' := [(3, .int (iZ (0))), (1, .int (iZ (0))), (0, .ref h0)]) hx hb dX10_opensOn_124 rfl hl (by decide) rfl (fun ls hl => ?_)
    refine LX10_opensOn_125 hx hb hml hown hts hK (Nat.le_of_ble_eq_true rfl) (Nat.le_of_ble_eq_true rfl) (Nat.le_of_ble_eq_true rfl) (Nat.le_of_ble_eq_true rfl) (μ13_) (by exact cO) (by exact q5_13) ?_ _ (0) (0) μ13_ H locs ls (by rfl) (by have := cO.1; omega) (by exact Or.inl rfl) (Nat.lt_succ_self _) hP hS (lv_sub hl [0, 1, 2] rfl)
    · intro an_14 q_14 μ14_ H locs ls q6_14 q7_14 hP hS hl
      have hl : lv_has ls 4 [(1, .int (iZ (an_14)))] := hl
      refine lv_iload_n hx hb dX10_opensOn_148 rfl (lv_at hl 0 rfl) ?_
      exact W.zret (v := iZ (an_14)) hx hb hr (by exact fz_narZ q7_14) (fun t9 ht9 hW9 => ⟨⟨iZ (an_14), (μ14_, an_14), rfl, ⟨rfl, (by
                    dsimp only
                    rw [q6_14]
                    exact ⟨q4_13, q5_13⟩)⟩, by rw [ht9]; exact hP, va_K.moved hW9.alike hK⟩, hS.F ht9⟩) hS.2.2 dX10_opensOn_149

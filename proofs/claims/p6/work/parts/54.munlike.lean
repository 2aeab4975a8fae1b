theorem dX10_unlike_0 : decode cX10_unlike 0 = .ok (.aload_n 0, 1) := by decide +kernel
theorem dX10_unlike_1 : decode cX10_unlike 1 = .ok (.iconst 0, 1) := by decide +kernel
theorem dX10_unlike_2 : decode cX10_unlike 2 = .ok (.putfield 127, 3) := by decide +kernel
theorem dX10_unlike_5 : decode cX10_unlike 5 = .ok (.aload_n 0, 1) := by decide +kernel
theorem dX10_unlike_6 : decode cX10_unlike 6 = .ok (.aload_n 0, 1) := by decide +kernel
theorem dX10_unlike_7 : decode cX10_unlike 7 = .ok (.iload_n 1, 1) := by decide +kernel
theorem dX10_unlike_8 : decode cX10_unlike 8 = .ok (.invokevirtual 361, 3) := by decide +kernel
theorem dX10_unlike_11 : decode cX10_unlike 11 = .ok (.ifCond .ne 7, 3) := by decide +kernel
theorem dX10_unlike_14 : decode cX10_unlike 14 = .ok (.iconst 1, 1) := by decide +kernel
theorem dX10_unlike_15 : decode cX10_unlike 15 = .ok (.goto 4, 3) := by decide +kernel
theorem dX10_unlike_18 : decode cX10_unlike 18 = .ok (.iconst 0, 1) := by decide +kernel
theorem dX10_unlike_19 : decode cX10_unlike 19 = .ok (.iconst 1, 1) := by decide +kernel
theorem dX10_unlike_20 : decode cX10_unlike 20 = .ok (.iconst 0, 1) := by decide +kernel
theorem dX10_unlike_21 : decode cX10_unlike 21 = .ok (.invokevirtual 177, 3) := by decide +kernel
theorem dX10_unlike_24 : decode cX10_unlike 24 = .ok (.ifCond .eq 5, 3) := by decide +kernel
theorem dX10_unlike_27 : decode cX10_unlike 27 = .ok (.iconst 0, 1) := by decide +kernel
theorem dX10_unlike_28 : decode cX10_unlike 28 = .ok (.ireturn, 1) := by decide +kernel
theorem dX10_unlike_29 : decode cX10_unlike 29 = .ok (.aload_n 0, 1) := by decide +kernel
theorem dX10_unlike_30 : decode cX10_unlike 30 = .ok (.getfield 45, 3) := by decide +kernel
theorem dX10_unlike_33 : decode cX10_unlike 33 = .ok (.iconst 0, 1) := by decide +kernel
theorem dX10_unlike_34 : decode cX10_unlike 34 = .ok (.aaload, 1) := by decide +kernel
theorem dX10_unlike_35 : decode cX10_unlike 35 = .ok (.iload_n 1, 1) := by decide +kernel
theorem dX10_unlike_36 : decode cX10_unlike 36 = .ok (.iaload, 1) := by decide +kernel
theorem dX10_unlike_37 : decode cX10_unlike 37 = .ok (.iconst 2, 1) := by decide +kernel
theorem dX10_unlike_38 : decode cX10_unlike 38 = .ok (.if_icmp .eq 5, 3) := by decide +kernel
theorem dX10_unlike_41 : decode cX10_unlike 41 = .ok (.iconst (-1), 1) := by decide +kernel
theorem dX10_unlike_42 : decode cX10_unlike 42 = .ok (.ireturn, 1) := by decide +kernel
theorem dX10_unlike_43 : decode cX10_unlike 43 = .ok (.iconst 0, 1) := by decide +kernel
theorem dX10_unlike_44 : decode cX10_unlike 44 = .ok (.istore_n 2, 1) := by decide +kernel
theorem dX10_unlike_45 : decode cX10_unlike 45 = .ok (.iload_n 2, 1) := by decide +kernel
theorem dX10_unlike_46 : decode cX10_unlike 46 = .ok (.sipush 200, 3) := by decide +kernel
theorem dX10_unlike_49 : decode cX10_unlike 49 = .ok (.if_icmp .ge 16, 3) := by decide +kernel
theorem dX10_unlike_52 : decode cX10_unlike 52 = .ok (.aload_n 0, 1) := by decide +kernel
theorem dX10_unlike_53 : decode cX10_unlike 53 = .ok (.getfield 118, 3) := by decide +kernel
theorem dX10_unlike_56 : decode cX10_unlike 56 = .ok (.iload_n 2, 1) := by decide +kernel
theorem dX10_unlike_57 : decode cX10_unlike 57 = .ok (.iconst 0, 1) := by decide +kernel
theorem dX10_unlike_58 : decode cX10_unlike 58 = .ok (.bastore, 1) := by decide +kernel
theorem dX10_unlike_59 : decode cX10_unlike 59 = .ok (.iinc 2 1, 3) := by decide +kernel
theorem dX10_unlike_62 : decode cX10_unlike 62 = .ok (.goto (-17), 3) := by decide +kernel
theorem dX10_unlike_65 : decode cX10_unlike 65 = .ok (.iconst 0, 1) := by decide +kernel
theorem dX10_unlike_66 : decode cX10_unlike 66 = .ok (.istore_n 2, 1) := by decide +kernel
theorem dX10_unlike_67 : decode cX10_unlike 67 = .ok (.iload_n 2, 1) := by decide +kernel
theorem dX10_unlike_68 : decode cX10_unlike 68 = .ok (.aload_n 0, 1) := by decide +kernel
theorem dX10_unlike_69 : decode cX10_unlike 69 = .ok (.getfield 181, 3) := by decide +kernel
theorem dX10_unlike_72 : decode cX10_unlike 72 = .ok (.if_icmp .ge 62, 3) := by decide +kernel
theorem dX10_unlike_75 : decode cX10_unlike 75 = .ok (.aload_n 0, 1) := by decide +kernel
theorem dX10_unlike_76 : decode cX10_unlike 76 = .ok (.iload_n 2, 1) := by decide +kernel
theorem dX10_unlike_77 : decode cX10_unlike 77 = .ok (.invokevirtual 399, 3) := by decide +kernel
theorem dX10_unlike_80 : decode cX10_unlike 80 = .ok (.ifCond .ne 6, 3) := by decide +kernel
theorem dX10_unlike_83 : decode cX10_unlike 83 = .ok (.goto 45, 3) := by decide +kernel
theorem dX10_unlike_86 : decode cX10_unlike 86 = .ok (.iconst 0, 1) := by decide +kernel
theorem dX10_unlike_87 : decode cX10_unlike 87 = .ok (.istore_n 3, 1) := by decide +kernel
theorem dX10_unlike_88 : decode cX10_unlike 88 = .ok (.iload_n 3, 1) := by decide +kernel
theorem dX10_unlike_89 : decode cX10_unlike 89 = .ok (.aload_n 0, 1) := by decide +kernel
theorem dX10_unlike_90 : decode cX10_unlike 90 = .ok (.getfield 34, 3) := by decide +kernel
theorem dX10_unlike_93 : decode cX10_unlike 93 = .ok (.iload_n 2, 1) := by decide +kernel
theorem dX10_unlike_94 : decode cX10_unlike 94 = .ok (.iaload, 1) := by decide +kernel
theorem dX10_unlike_95 : decode cX10_unlike 95 = .ok (.if_icmp .ge 33, 3) := by decide +kernel
theorem dX10_unlike_98 : decode cX10_unlike 98 = .ok (.aload_n 0, 1) := by decide +kernel
theorem dX10_unlike_99 : decode cX10_unlike 99 = .ok (.getfield 115, 3) := by decide +kernel
theorem dX10_unlike_102 : decode cX10_unlike 102 = .ok (.iload_n 3, 1) := by decide +kernel
theorem dX10_unlike_103 : decode cX10_unlike 103 = .ok (.iaload, 1) := by decide +kernel
theorem dX10_unlike_104 : decode cX10_unlike 104 = .ok (.iload_n 1, 1) := by decide +kernel
theorem dX10_unlike_105 : decode cX10_unlike 105 = .ok (.if_icmp .ne 17, 3) := by decide +kernel
theorem dX10_unlike_108 : decode cX10_unlike 108 = .ok (.aload_n 0, 1) := by decide +kernel
theorem dX10_unlike_109 : decode cX10_unlike 109 = .ok (.getfield 118, 3) := by decide +kernel
theorem dX10_unlike_112 : decode cX10_unlike 112 = .ok (.aload_n 0, 1) := by decide +kernel
theorem dX10_unlike_113 : decode cX10_unlike 113 = .ok (.getfield 31, 3) := by decide +kernel
theorem dX10_unlike_116 : decode cX10_unlike 116 = .ok (.iload_n 2, 1) := by decide +kernel
theorem dX10_unlike_117 : decode cX10_unlike 117 = .ok (.aaload, 1) := by decide +kernel
theorem dX10_unlike_118 : decode cX10_unlike 118 = .ok (.iload_n 3, 1) := by decide +kernel
theorem dX10_unlike_119 : decode cX10_unlike 119 = .ok (.iaload, 1) := by decide +kernel
theorem dX10_unlike_120 : decode cX10_unlike 120 = .ok (.iconst 1, 1) := by decide +kernel
theorem dX10_unlike_121 : decode cX10_unlike 121 = .ok (.bastore, 1) := by decide +kernel
theorem dX10_unlike_122 : decode cX10_unlike 122 = .ok (.iinc 3 1, 3) := by decide +kernel
theorem dX10_unlike_125 : decode cX10_unlike 125 = .ok (.goto (-37), 3) := by decide +kernel
theorem dX10_unlike_128 : decode cX10_unlike 128 = .ok (.iinc 2 1, 3) := by decide +kernel
theorem dX10_unlike_131 : decode cX10_unlike 131 = .ok (.goto (-64), 3) := by decide +kernel
theorem dX10_unlike_134 : decode cX10_unlike 134 = .ok (.iconst 0, 1) := by decide +kernel
theorem dX10_unlike_135 : decode cX10_unlike 135 = .ok (.istore_n 2, 1) := by decide +kernel
theorem dX10_unlike_136 : decode cX10_unlike 136 = .ok (.iconst 0, 1) := by decide +kernel
theorem dX10_unlike_137 : decode cX10_unlike 137 = .ok (.istore_n 3, 1) := by decide +kernel
theorem dX10_unlike_138 : decode cX10_unlike 138 = .ok (.iload_n 3, 1) := by decide +kernel
theorem dX10_unlike_139 : decode cX10_unlike 139 = .ok (.sipush 200, 3) := by decide +kernel
theorem dX10_unlike_142 : decode cX10_unlike 142 = .ok (.if_icmp .ge 26, 3) := by decide +kernel
theorem dX10_unlike_145 : decode cX10_unlike 145 = .ok (.iload_n 2, 1) := by decide +kernel
theorem dX10_unlike_146 : decode cX10_unlike 146 = .ok (.aload_n 0, 1) := by decide +kernel
theorem dX10_unlike_147 : decode cX10_unlike 147 = .ok (.getfield 118, 3) := by decide +kernel
theorem dX10_unlike_150 : decode cX10_unlike 150 = .ok (.iload_n 3, 1) := by decide +kernel
theorem dX10_unlike_151 : decode cX10_unlike 151 = .ok (.baload, 1) := by decide +kernel
theorem dX10_unlike_152 : decode cX10_unlike 152 = .ok (.ifCond .eq 7, 3) := by decide +kernel
theorem dX10_unlike_155 : decode cX10_unlike 155 = .ok (.iconst 1, 1) := by decide +kernel
theorem dX10_unlike_156 : decode cX10_unlike 156 = .ok (.goto 4, 3) := by decide +kernel
theorem dX10_unlike_159 : decode cX10_unlike 159 = .ok (.iconst 0, 1) := by decide +kernel
theorem dX10_unlike_160 : decode cX10_unlike 160 = .ok (.iadd, 1) := by decide +kernel
theorem dX10_unlike_161 : decode cX10_unlike 161 = .ok (.istore_n 2, 1) := by decide +kernel
theorem dX10_unlike_162 : decode cX10_unlike 162 = .ok (.iinc 3 1, 3) := by decide +kernel
theorem dX10_unlike_165 : decode cX10_unlike 165 = .ok (.goto (-27), 3) := by decide +kernel
theorem dX10_unlike_168 : decode cX10_unlike 168 = .ok (.iload_n 2, 1) := by decide +kernel
theorem dX10_unlike_169 : decode cX10_unlike 169 = .ok (.ireturn, 1) := by decide +kernel
def TF (x y : Nat) : Prop := x = 6322
def isB (μ : va_M) : Prop := ∀ x : Nat, x < 200 → μ 6322 x = 0 ∨ μ 6322 x = 1
theorem isB_up {μ : va_M} {q : Nat} (h : isB μ) : isB (uz μ 6322 q 1) := fun x hx => by
  by_cases h9 : x = q
  · subst h9; rw [uz_s]; exact Or.inr rfl
  · rw [uz_n (by omega)]; exact h x hx
set_option maxHeartbeats 4000000 in
set_option maxRecDepth 100000 in
theorem LX10_unlike_45 {p : Program} {l : Launch} {e : Env} {R : Room} {s : State} {m : MethodId} {args : Array Value} {below : List Frame} {meth : Method} {c : Code} {cells slots : Nat} {Q : State → Prop} {dC : Nat → ClassId} {dI : Nat → Nat → Nat} {h0 : Nat} {cI cZ cII cIII : ClassId} (hx : p.tables.exec = Jvm.exec) (hb : c.code = cX10_unlike) (hml : c.maxLocals = 4) (hown : s.vm.findClass RX10 = some m.cls) (hts : ∀ w ∈ wsG, w.before args s = true) (hK : va_K (dC, dI) vwCl (mT cI cZ cII cIII) s) (hRf : 9 ≤ R.frames) (hRl : 215 ≤ R.locals) (hRc : cells ≤ R.cells) (hRs : slots ≤ R.slots) (μ0 : va_M) (i : Int) (hexit65 : ∀ (k : Int) (μ : va_M) (H : Heap) (locs : List Loc) (ls : Array Slot), (fr TF μ0 μ) → (isB μ) → va_P (dC, dI) vwCl (fw (mE cI cZ cII cIII h0) h0 6325 μ) H → va_S (fA h0 6325 s.heap.size) s.heap H locs → lv_has ls 4 [(1, .int (iZ (i))), (0, .ref h0)] → W p l e R s m args below meth c H locs cells slots Q (F0 m 65 ls [])) :
    ∀ (n9 : Nat) (k : Int) (μ : va_M) (H : Heap) (locs : List Loc) (ls : Array Slot), (0 ≤ k ∧ k ≤ 200) → (fr TF μ0 μ) → (∀ x : Nat, (x : Int) < k → μ 6322 x = 0 ∨ μ 6322 x = 1) → (300 - k).toNat < n9 → va_P (dC, dI) vwCl (fw (mE cI cZ cII cIII h0) h0 6325 μ) H → va_S (fA h0 6325 s.heap.size) s.heap H locs → lv_has ls 4 [(2, .int (iZ (k))), (1, .int (iZ (i))), (0, .ref h0)] → W p l e R s m args below meth c H locs cells slots Q (F0 m 45 ls []) := by
  intro n9
  induction n9 with
  | zero => intro k μ H locs ls hk hf hz hm9 hP hS hl; exact absurd hm9 (Nat.not_lt_zero _)
  | succ n9 ih =>
    intro k μ H locs ls hk hf hz hm9 hP hS hl
    refine lv_iload_n hx hb dX10_unlike_45 rfl (lv_at hl 0 rfl) ?_
    refine lv_sipush (v := iZ 200) hx hb dX10_unlike_46 rfl ?_
    refine fz_icmp_ge (tgt := 65) (by constructor <;> omega) (by decide) hx hb dX10_unlike_49 (by decide) (fun c49_ => ?_) (fun c49_ => ?_)
    · exact hexit65 (k) μ H locs ls (by exact hf) (by
                    intro x hx
                    exact hz x (by omega)) hP hS (lv_sub hl [1, 2] rfl)
    · refine lv_aload_n hx hb dX10_unlike_52 rfl (lv_at hl 2 rfl) ?_
      refine fz_get (D := (dC, dI)) (ci := 10) (v := .ref (h0 + 6322)) (C := RX10) (T := TX10) (N := 53) hx hb hts inG10 hown hK hP (k := 0) (by decide) (F := mF h0) mE_obj rfl 50 (by decide) (hts _ k1216) (fun _ h9 => h9) rfl dX10_unlike_53 ?_
      refine lv_iload_n hx hb dX10_unlike_56 rfl (lv_at hl 0 rfl) ?_
      refine lv_iconst (v := iZ 0) hx hb dX10_unlike_57 rfl ?_
      refine fz_zst (k := 6322) (n := 200) (i := k) (z := 0) hx hb hK hP fA_in hS 1 (by decide) mE_isTaken rfl ⟨by omega, by omega⟩ (by decide) (by decide) dX10_unlike_58 (fun H locs hP hS => ?_)
      obtain ⟨μ1, eμ1⟩ : ∃ x : va_M, x = uz μ 6322 (k).toNat (0) := ⟨_, rfl⟩
      rw [← eμ1] at hP
      refine lv_iinc (v := iZ (k + 1)) (lv' := [(2, .int (iZ (k + 1))), (1, .int (iZ (i))), (0, .ref h0)]) hx hb dX10_unlike_59 hl (k := 0) rfl (iZ_add _ _) (by decide) rfl (fun ls hl => ?_)
      refine lv_goto (tgt := 45) hx hb dX10_unlike_62 (by decide) ?_
      exact ih (k + 1) μ1 H locs ls (by omega) (by
                    subst eμ1
                    exact fr_uz hf rfl) (by
                    subst eμ1
                    intro x hx
                    by_cases h9 : x = k.toNat
                    · subst h9; rw [uz_s]; exact Or.inl rfl
                    · rw [uz_n (by omega)]; exact hz x (by omega)) (by omega) hP hS (lv_sub hl [0, 1, 2] rfl)
set_option maxHeartbeats 4000000 in
set_option maxRecDepth 100000 in
theorem LX10_unlike_88 {p : Program} {l : Launch} {e : Env} {R : Room} {s : State} {m : MethodId} {args : Array Value} {below : List Frame} {meth : Method} {c : Code} {cells slots : Nat} {Q : State → Prop} {dC : Nat → ClassId} {dI : Nat → Nat → Nat} {h0 : Nat} {cI cZ cII cIII : ClassId} (hx : p.tables.exec = Jvm.exec) (hb : c.code = cX10_unlike) (hml : c.maxLocals = 4) (hown : s.vm.findClass RX10 = some m.cls) (hts : ∀ w ∈ wsG, w.before args s = true) (hK : va_K (dC, dI) vwCl (mT cI cZ cII cIII) s) (hRf : 9 ≤ R.frames) (hRl : 215 ≤ R.locals) (hRc : cells ≤ R.cells) (hRs : slots ≤ R.slots) (μ0 : va_M) (pp : Int) (i : Int) (hpp : 0 ≤ pp ∧ pp < 8) (hi : inR i) (hP0 : 0 ≤ μ0 15 pp.toNat ∧ μ0 15 pp.toNat ≤ 60) (htk : ∀ k : Nat, (k : Int) < μ0 15 pp.toNat → (0 ≤ μ0 6321 k ∧ μ0 6321 k < 900) ∧ 0 ≤ μ0 (7 + pp.toNat) k ∧ μ0 (7 + pp.toNat) k < 200) (hexit128 : ∀ (k : Int) (μ : va_M) (H : Heap) (locs : List Loc) (ls : Array Slot), (fr TF μ0 μ) → (isB μ) → va_P (dC, dI) vwCl (fw (mE cI cZ cII cIII h0) h0 6325 μ) H → va_S (fA h0 6325 s.heap.size) s.heap H locs → lv_has ls 4 [(2, .int (iZ (pp))), (1, .int (iZ (i))), (0, .ref h0)] → W p l e R s m args below meth c H locs cells slots Q (F0 m 128 ls [])) :
    ∀ (n9 : Nat) (k : Int) (μ : va_M) (H : Heap) (locs : List Loc) (ls : Array Slot), (0 ≤ k ∧ k ≤ μ0 15 pp.toNat) → (fr TF μ0 μ) → (isB μ) → (100 - k).toNat < n9 → va_P (dC, dI) vwCl (fw (mE cI cZ cII cIII h0) h0 6325 μ) H → va_S (fA h0 6325 s.heap.size) s.heap H locs → lv_has ls 4 [(3, .int (iZ (k))), (2, .int (iZ (pp))), (1, .int (iZ (i))), (0, .ref h0)] → W p l e R s m args below meth c H locs cells slots Q (F0 m 88 ls []) := by
  intro n9
  induction n9 with
  | zero => intro k μ H locs ls hk hf hb2 hm9 hP hS hl; exact absurd hm9 (Nat.not_lt_zero _)
  | succ n9 ih =>
    intro k μ H locs ls hk hf hb2 hm9 hP hS hl
    have e15 : μ 15 pp.toNat = μ0 15 pp.toNat := hf _ _ (by unfold TF; omega)
    have e63 : ∀ k, μ 6321 k = μ0 6321 k := fun k => hf _ _ (by unfold TF; omega)
    have e7 : ∀ k, μ (7 + pp.toNat) k = μ0 (7 + pp.toNat) k := fun k => hf _ _ (by unfold TF; omega)
    refine lv_iload_n hx hb dX10_unlike_88 rfl (lv_at hl 0 rfl) ?_
    refine lv_aload_n hx hb dX10_unlike_89 rfl (lv_at hl 3 rfl) ?_
    refine fz_get (D := (dC, dI)) (ci := 10) (v := .ref (h0 + 15)) (C := RX10) (T := TX10) (N := 53) hx hb hts inG10 hown hK hP (k := 0) (by decide) (F := mF h0) mE_obj rfl 15 (by decide) (hts _ k1181) (fun _ h9 => h9) rfl dX10_unlike_90 ?_
    refine lv_iload_n hx hb dX10_unlike_93 rfl (lv_at hl 1 rfl) ?_
    refine fz_ld (k := 15) (n := 8) hx hb hK hP 0 (by decide) mE_pageLong rfl ⟨by omega, by omega⟩ (by decide) dX10_unlike_94 ?_
    refine fz_icmp_ge (tgt := 128) (by constructor <;> omega) (by constructor <;> omega) hx hb dX10_unlike_95 (by decide) (fun c95_ => ?_) (fun c95_ => ?_)
    · exact hexit128 (k) μ H locs ls (by exact hf) (by exact hb2) hP hS (lv_sub hl [1, 2, 3] rfl)
    · have ht9 := htk k.toNat (by omega)
      have e63k := e63 k.toNat
      have e7k := e7 k.toNat
      refine lv_aload_n hx hb dX10_unlike_98 rfl (lv_at hl 3 rfl) ?_
      refine fz_get (D := (dC, dI)) (ci := 10) (v := .ref (h0 + 6321)) (C := RX10) (T := TX10) (N := 53) hx hb hts inG10 hown hK hP (k := 0) (by decide) (F := mF h0) mE_obj rfl 49 (by decide) (hts _ k1215) (fun _ h9 => h9) rfl dX10_unlike_99 ?_
      refine lv_iload_n hx hb dX10_unlike_102 rfl (lv_at hl 0 rfl) ?_
      refine fz_ld (k := 6321) (n := 60) hx hb hK hP 0 (by decide) mE_takerOf rfl ⟨by omega, by omega⟩ (by decide) dX10_unlike_103 ?_
      refine lv_iload_n hx hb dX10_unlike_104 rfl (lv_at hl 2 rfl) ?_
      refine fz_icmp_ne (tgt := 122) (by first | exact hi | (constructor <;> omega)) (by first | exact hi | (constructor <;> omega)) hx hb dX10_unlike_105 (by decide) (fun c105_ => ?_) (fun c105_ => ?_)
      · refine lv_iinc (v := iZ (k + 1)) (lv' := [(3, .int (iZ (k + 1))), (2, .int (iZ (pp))), (1, .int (iZ (i))), (0, .ref h0)]) hx hb dX10_unlike_122 hl (k := 0) rfl (iZ_add _ _) (by decide) rfl (fun ls hl => ?_)
        refine lv_goto (tgt := 88) hx hb dX10_unlike_125 (by decide) ?_
        exact ih (k + 1) μ H locs ls (by omega) (by first | exact hf | (subst hx; exact fr_uz hf rfl)) (by first | exact hb2 | (subst hx; exact isB_up hb2)) (by omega) hP hS (lv_sub hl [0, 1, 2, 3] rfl)
      · refine lv_aload_n hx hb dX10_unlike_108 rfl (lv_at hl 3 rfl) ?_
        refine fz_get (D := (dC, dI)) (ci := 10) (v := .ref (h0 + 6322)) (C := RX10) (T := TX10) (N := 53) hx hb hts inG10 hown hK hP (k := 0) (by decide) (F := mF h0) mE_obj rfl 50 (by decide) (hts _ k1216) (fun _ h9 => h9) rfl dX10_unlike_109 ?_
        refine lv_aload_n hx hb dX10_unlike_112 rfl (lv_at hl 3 rfl) ?_
        refine fz_get (D := (dC, dI)) (ci := 10) (v := .ref (h0 + 6)) (C := RX10) (T := TX10) (N := 53) hx hb hts inG10 hown hK hP (k := 0) (by decide) (F := mF h0) mE_obj rfl 14 (by decide) (hts _ k1180) (fun _ h9 => h9) rfl dX10_unlike_113 ?_
        refine lv_iload_n hx hb dX10_unlike_116 rfl (lv_at hl 1 rfl) ?_
        refine fz_ald (k := 6) (n := 8) (k2 := (7 + (pp).toNat)) hx hb hK hP 2 rfl (by decide) mE_page rfl ⟨by omega, by omega⟩ (by decide) (if_pos (by omega)) dX10_unlike_117 ?_
        refine lv_iload_n hx hb dX10_unlike_118 rfl (lv_at hl 0 rfl) ?_
        refine fz_ld (k := (7 + (pp).toNat)) (n := 60) hx hb hK hP 0 (by omega) (mE_pageR (by omega)) rfl ⟨by omega, by omega⟩ (by decide) dX10_unlike_119 ?_
        refine lv_iconst (v := iZ 1) hx hb dX10_unlike_120 rfl ?_
        refine fz_zst (k := 6322) (n := 200) (i := (μ (7 + (pp).toNat) (k).toNat)) (z := 1) hx hb hK hP fA_in hS 1 (by decide) mE_isTaken rfl ⟨by omega, by omega⟩ (by decide) (by decide) dX10_unlike_121 (fun H locs hP hS => ?_)
        obtain ⟨μ2, eμ2⟩ : ∃ x : va_M, x = uz μ 6322 (μ (7 + (pp).toNat) (k).toNat).toNat (1) := ⟨_, rfl⟩
        rw [← eμ2] at hP
        refine lv_iinc (v := iZ (k + 1)) (lv' := [(3, .int (iZ (k + 1))), (2, .int (iZ (pp))), (1, .int (iZ (i))), (0, .ref h0)]) hx hb dX10_unlike_122 hl (k := 0) rfl (iZ_add _ _) (by decide) rfl (fun ls hl => ?_)
        refine lv_goto (tgt := 88) hx hb dX10_unlike_125 (by decide) ?_
        exact ih (k + 1) μ2 H locs ls (by omega) (by first | exact hf | (subst eμ2; exact fr_uz hf rfl)) (by first | exact hb2 | (subst eμ2; exact isB_up hb2)) (by omega) hP hS (lv_sub hl [0, 1, 2, 3] rfl)
set_option maxHeartbeats 4000000 in
set_option maxRecDepth 100000 in
theorem LX10_unlike_67 {p : Program} {l : Launch} {e : Env} {R : Room} {s : State} {m : MethodId} {args : Array Value} {below : List Frame} {meth : Method} {c : Code} {cells slots : Nat} {Q : State → Prop} {dC : Nat → ClassId} {dI : Nat → Nat → Nat} {h0 : Nat} {cI cZ cII cIII : ClassId} (hx : p.tables.exec = Jvm.exec) (hb : c.code = cX10_unlike) (hml : c.maxLocals = 4) (hown : s.vm.findClass RX10 = some m.cls) (hts : ∀ w ∈ wsG, w.before args s = true) (hK : va_K (dC, dI) vwCl (mT cI cZ cII cIII) s) (hRf : 9 ≤ R.frames) (hRl : 215 ≤ R.locals) (hRc : cells ≤ R.cells) (hRs : slots ≤ R.slots) (μ0 : va_M) (i : Int) (hi : inR i) (hexit134 : ∀ (pp : Int) (μ : va_M) (H : Heap) (locs : List Loc) (ls : Array Slot), (fr PS μ0 μ) → (μ 0 0 = μ0 0 0) → (isB μ) → va_P (dC, dI) vwCl (fw (mE cI cZ cII cIII h0) h0 6325 μ) H → va_S (fA h0 6325 s.heap.size) s.heap H locs → lv_has ls 4 [(1, .int (iZ (i))), (0, .ref h0)] → W p l e R s m args below meth c H locs cells slots Q (F0 m 134 ls [])) :
    ∀ (n9 : Nat) (pp : Int) (μ : va_M) (H : Heap) (locs : List Loc) (ls : Array Slot), (RQ μ) → (fr PS μ0 μ) → (0 ≤ pp ∧ pp ≤ μ0 0 10) → (μ 0 0 = μ0 0 0) → (isB μ) → (20 - pp).toNat < n9 → va_P (dC, dI) vwCl (fw (mE cI cZ cII cIII h0) h0 6325 μ) H → va_S (fA h0 6325 s.heap.size) s.heap H locs → lv_has ls 4 [(2, .int (iZ (pp))), (1, .int (iZ (i))), (0, .ref h0)] → W p l e R s m args below meth c H locs cells slots Q (F0 m 67 ls []) := by
  intro n9
  induction n9 with
  | zero => intro pp μ H locs ls hQ hf hk h00 hb2 hm9 hP hS hl; exact absurd hm9 (Nat.not_lt_zero _)
  | succ n9 ih =>
    intro pp μ H locs ls hQ hf hk h00 hb2 hm9 hP hS hl
    have e10 : μ 0 10 = μ0 0 10 := hf 0 10 (PS_n (by omega))
    have k10 := hQ.1
    refine lv_iload_n hx hb dX10_unlike_67 rfl (lv_at hl 0 rfl) ?_
    refine lv_aload_n hx hb dX10_unlike_68 rfl (lv_at hl 2 rfl) ?_
    refine fz_get (D := (dC, dI)) (ci := 10) (v := .int (iZ (μ 0 10))) (C := RX10) (T := TX10) (N := 53) hx hb hts inG10 hown hK hP (k := 0) (by decide) (F := mF h0) mE_obj rfl 10 (by decide) (hts _ k1176) (fun _ h9 => h9) rfl dX10_unlike_69 ?_
    refine fz_icmp_ge (tgt := 134) (by constructor <;> omega) (by constructor <;> omega) hx hb dX10_unlike_72 (by decide) (fun c72_ => ?_) (fun c72_ => ?_)
    · exact hexit134 (pp) μ H locs ls (by exact hf) (by exact h00) (by exact hb2) hP hS (lv_sub hl [1, 2] rfl)
    · refine lv_aload_n hx hb dX10_unlike_75 rfl (lv_at hl 2 rfl) ?_
      refine lv_iload_n hx hb dX10_unlike_76 rfl (lv_at hl 0 rfl) ?_
      refine va_calli (va_runV (As := [.int (iZ (pp))]) (rest := []) ⟨hx, hb, hml, hown, hts⟩ (m_walksPage l dC dI cI cZ cII cIII h0 H.size μ (pp) (by exact hQ) (by omega)) (cwV 1 hts (gV_G k1663 k1665 ks_yX10_walksPage k13 k1666) rfl rfl rfl (by decide +kernel) ⟨by show 8 + 1 ≤ _; omega, by show 8 + (6 + 11) + (190) ≤ _; omega⟩) ⟨fun a U g mk q => by obtain ⟨q0, q1, qP, qK⟩ := q; exact ⟨q0, q1, qP, va_K.moved (u := U) (U := U.calling g mk a) (Vm.Alike.refl U.vm) qK⟩, va_recv hK hP (ci := 10) (q0 := 0) rfl ((fw_get (by decide)).trans (by rw [mE_obj]; rfl)), fun U hU hW => ⟨rfl, by rw [hU], by rw [hU]; exact hP, va_K.moved hW.alike hK⟩⟩ rfl rfl hl.1 rfl (lv_room (Nat.le_of_ble_eq_true rfl)) dX10_unlike_77 ⟨hRc, hRs⟩) hS (fun q _ h => fA_le hS.1 q h) (fA_le hS.1) (fun r9 u9 t9 H1 locs ht9 hvm9 hw9 hB9 hz9 hk9 hS => ?_)
      obtain ⟨μ3, r4⟩ := u9
      obtain ⟨hP, -⟩ := hB9
      rw [ht9] at hP
      generalize H1 = H at hP hS ⊢
      obtain ⟨e9, hw9⟩ := hw9
      have e9 : r9 = iZ r4 := e9
      subst e9
      simp only at hP hw9
      have hμ3 := hw9; clear hw9
      obtain ⟨w0, w2, w3⟩ := hμ3
      have w1 := fr_mono w0 (fun _ _ h => WKP_PS h)
      have hQ2 := RQ_fr hQ w1
      have wB : isB μ3 := fun x hx => by rw [w0 6322 x (by unfold WKP WKF SW SF CF; omega)]; exact hb2 x hx
      have w6 : r4 = 0 ∨ r4 = 1 := by
        rcases w3 with h | ⟨h, _⟩ <;> omega
      refine fz_if_ne (tgt := 86) (by constructor <;> omega) hx hb dX10_unlike_80 (by decide) (fun c80_ => ?_) (fun c80_ => ?_)
      · have hQ3 := hQ2
        obtain ⟨m10, ⟨mT, mTb, mTw⟩, mS3, mPg, mw, mwB, mwT⟩ := hQ3
        have e10b := w1 0 10 (PS_n (by omega))
        obtain ⟨p1, p2, p3, pw, pw1, pw2, pw3⟩ := mPg pp.toNat (by omega)
        have mT1 := mTb.1
        have mT2 := mTb.2.1
        have e15b := w1 15 pp.toNat (PS_n (by omega))
        have w4 : ∀ k : Nat, (k : Int) < μ3 15 pp.toNat → (0 ≤ μ3 6321 k ∧ μ3 6321 k < 900) ∧ 0 ≤ μ3 (7 + pp.toNat) k ∧ μ3 (7 + pp.toNat) k < 200 := by
          intro k hk
          have h8 := p3 k hk
          rcases w3 with h | ⟨_, h, _⟩
          · omega
          · exact ⟨h k (by omega), by omega, by omega⟩
        refine lv_iconst (v := iZ 0) hx hb dX10_unlike_86 rfl ?_
        refine lv_istore_n (lv' := [(3, .int (iZ (0))), (2, .int (iZ (pp))), (1, .int (iZ (i))), (0, .ref h0)]) hx hb dX10_unlike_87 rfl hl (by decide) rfl (fun ls hl => ?_)
        refine LX10_unlike_88 hx hb hml hown hts hK hRf hRl hRc hRs (μ3) (pp) (i) (by omega) (by assumption) (by omega) (by exact w4) ?_ _ (0) μ3 H locs ls (by omega) (by exact fr_rfl) (by exact wB) (Nat.lt_succ_self _) hP hS (lv_sub hl [0, 1, 2, 3] rfl)
        · intro k_5 μ5_ H locs ls q3_5 q4_5 hP hS hl
          have hl : lv_has ls 4 [(2, .int (iZ (pp))), (1, .int (iZ (i))), (0, .ref h0)] := hl
          refine lv_iinc (v := iZ (pp + 1)) (lv' := [(2, .int (iZ (pp + 1))), (1, .int (iZ (i))), (0, .ref h0)]) hx hb dX10_unlike_128 hl (k := 0) rfl (iZ_add _ _) (by decide) rfl (fun ls hl => ?_)
          refine lv_goto (tgt := 67) hx hb dX10_unlike_131 (by decide) ?_
          exact ih (pp + 1) μ5_ H locs ls (by first | exact hQ2 | exact RQ_fr hQ2 (fr_mono q3_5 (fun x y h => by unfold TF at h; unfold PS; omega))) (by first | exact fr_trans hf w1 | exact fr_trans hf (fr_trans w1 (fr_mono q3_5 (fun x y h => by unfold TF at h; unfold PS; omega)))) (by omega) (by first | omega | (have h9 := q3_5 0 0 (by unfold TF; omega); omega)) (by first | exact wB | exact q4_5) (by omega) hP hS (lv_sub hl [0, 1, 2] rfl)
      · refine lv_goto (tgt := 128) hx hb dX10_unlike_83 (by decide) ?_
        refine lv_iinc (v := iZ (pp + 1)) (lv' := [(2, .int (iZ (pp + 1))), (1, .int (iZ (i))), (0, .ref h0)]) hx hb dX10_unlike_128 hl (k := 0) rfl (iZ_add _ _) (by decide) rfl (fun ls hl => ?_)
        refine lv_goto (tgt := 67) hx hb dX10_unlike_131 (by decide) ?_
        exact ih (pp + 1) μ3 H locs ls (by first | exact hQ2 | exact RQ_fr hQ2 (fr_mono q3 (fun x y h => by unfold TF at h; unfold PS; omega))) (by first | exact fr_trans hf w1 | exact fr_trans hf (fr_trans w1 (fr_mono q3 (fun x y h => by unfold TF at h; unfold PS; omega)))) (by omega) (by first | omega | (have h9 := q3 0 0 (by unfold TF; omega); omega)) (by first | exact wB | exact q4) (by omega) hP hS (lv_sub hl [0, 1, 2] rfl)
set_option maxHeartbeats 4000000 in
set_option maxRecDepth 100000 in
theorem LX10_unlike_138 {p : Program} {l : Launch} {e : Env} {R : Room} {s : State} {m : MethodId} {args : Array Value} {below : List Frame} {meth : Method} {c : Code} {cells slots : Nat} {Q : State → Prop} {dC : Nat → ClassId} {dI : Nat → Nat → Nat} {h0 : Nat} {cI cZ cII cIII : ClassId} (hx : p.tables.exec = Jvm.exec) (hb : c.code = cX10_unlike) (hml : c.maxLocals = 4) (hown : s.vm.findClass RX10 = some m.cls) (hts : ∀ w ∈ wsG, w.before args s = true) (hK : va_K (dC, dI) vwCl (mT cI cZ cII cIII) s) (hRf : 9 ≤ R.frames) (hRl : 215 ≤ R.locals) (hRc : cells ≤ R.cells) (hRs : slots ≤ R.slots) (μ0 : va_M) (hb2 : isB μ0) (hexit168 : ∀ (n : Int) (k : Int) (μ : va_M) (H : Heap) (locs : List Loc) (ls : Array Slot), (μ = μ0) → va_P (dC, dI) vwCl (fw (mE cI cZ cII cIII h0) h0 6325 μ) H → va_S (fA h0 6325 s.heap.size) s.heap H locs → lv_has ls 4 [(2, .int (iZ (n)))] → W p l e R s m args below meth c H locs cells slots Q (F0 m 168 ls [])) :
    ∀ (n9 : Nat) (n : Int) (k : Int) (μ : va_M) (H : Heap) (locs : List Loc) (ls : Array Slot), (μ = μ0) → (0 ≤ k ∧ k ≤ 200) → (0 ≤ n ∧ n ≤ k) → (300 - k).toNat < n9 → va_P (dC, dI) vwCl (fw (mE cI cZ cII cIII h0) h0 6325 μ) H → va_S (fA h0 6325 s.heap.size) s.heap H locs → lv_has ls 4 [(3, .int (iZ (k))), (2, .int (iZ (n))), (0, .ref h0)] → W p l e R s m args below meth c H locs cells slots Q (F0 m 138 ls []) := by
  intro n9
  induction n9 with
  | zero => intro n k μ H locs ls hm hk hn hm9 hP hS hl; exact absurd hm9 (Nat.not_lt_zero _)
  | succ n9 ih =>
    intro n k μ H locs ls hm hk hn hm9 hP hS hl
    subst hm
    refine lv_iload_n hx hb dX10_unlike_138 rfl (lv_at hl 0 rfl) ?_
    refine lv_sipush (v := iZ 200) hx hb dX10_unlike_139 rfl ?_
    refine fz_icmp_ge (tgt := 168) (by constructor <;> omega) (by decide) hx hb dX10_unlike_142 (by decide) (fun c142_ => ?_) (fun c142_ => ?_)
    · exact hexit168 (n) (k) μ H locs ls (by rfl) hP hS (lv_sub hl [1] rfl)
    · have h9b := hb2 k.toNat (by omega)
      refine lv_iload_n hx hb dX10_unlike_145 rfl (lv_at hl 1 rfl) ?_
      refine lv_aload_n hx hb dX10_unlike_146 rfl (lv_at hl 2 rfl) ?_
      refine fz_get (D := (dC, dI)) (ci := 10) (v := .ref (h0 + 6322)) (C := RX10) (T := TX10) (N := 53) hx hb hts inG10 hown hK hP (k := 0) (by decide) (F := mF h0) mE_obj rfl 50 (by decide) (hts _ k1216) (fun _ h9 => h9) rfl dX10_unlike_147 ?_
      refine lv_iload_n hx hb dX10_unlike_150 rfl (lv_at hl 0 rfl) ?_
      refine fz_zld (k := 6322) (n := 200) hx hb hK hP 1 (by decide) mE_isTaken rfl ⟨by omega, by omega⟩ (by decide) dX10_unlike_151 ?_
      refine fz_if_eq (tgt := 159) (by constructor <;> omega) hx hb dX10_unlike_152 (by decide) (fun c152_ => ?_) (fun c152_ => ?_)
      · refine lv_iconst (v := iZ 0) hx hb dX10_unlike_159 rfl ?_
        refine lv_iadd hx hb dX10_unlike_160 ?_
        refine lv_topi (fun x9 ex9 => ?_)
        obtain rfl : x9 = iZ (n + 0) := ex9.trans (iZ_add _ _)
        refine lv_istore_n (lv' := [(2, .int (iZ (n + 0))), (3, .int (iZ (k))), (0, .ref h0)]) hx hb dX10_unlike_161 rfl hl (by decide) rfl (fun ls hl => ?_)
        refine lv_iinc (v := iZ (k + 1)) (lv' := [(3, .int (iZ (k + 1))), (2, .int (iZ (n + 0))), (0, .ref h0)]) hx hb dX10_unlike_162 hl (k := 1) rfl (iZ_add _ _) (by decide) rfl (fun ls hl => ?_)
        refine lv_goto (tgt := 138) hx hb dX10_unlike_165 (by decide) ?_
        exact ih (n + 0) (k + 1) μ H locs ls (by rfl) (by omega) (by omega) (by omega) hP hS (lv_sub hl [0, 1, 2] rfl)
      · refine lv_iconst (v := iZ 1) hx hb dX10_unlike_155 rfl ?_
        refine lv_goto (tgt := 160) hx hb dX10_unlike_156 (by decide) ?_
        refine lv_iadd hx hb dX10_unlike_160 ?_
        refine lv_topi (fun x9 ex9 => ?_)
        obtain rfl : x9 = iZ (n + 1) := ex9.trans (iZ_add _ _)
        refine lv_istore_n (lv' := [(2, .int (iZ (n + 1))), (3, .int (iZ (k))), (0, .ref h0)]) hx hb dX10_unlike_161 rfl hl (by decide) rfl (fun ls hl => ?_)
        refine lv_iinc (v := iZ (k + 1)) (lv' := [(3, .int (iZ (k + 1))), (2, .int (iZ (n + 1))), (0, .ref h0)]) hx hb dX10_unlike_162 hl (k := 1) rfl (iZ_add _ _) (by decide) rfl (fun ls hl => ?_)
        refine lv_goto (tgt := 138) hx hb dX10_unlike_165 (by decide) ?_
        exact ih (n + 1) (k + 1) μ H locs ls (by rfl) (by omega) (by omega) (by omega) hP hS (lv_sub hl [0, 1, 2] rfl)
set_option maxHeartbeats 4000000 in
set_option maxRecDepth 100000 in
theorem m_unlike (l : Launch) (dC : Nat → ClassId) (dI : Nat → Nat → Nat) (cI cZ cII cIII : ClassId) (h0 sz : Nat) (μ : va_M) (i : Int) (hQ : RQ μ) (hi9 : inR i) : Met l yX10_unlike (Cond.code yX10_unlike cX10_unlike 4 (some .int) :: wsG) ({ frames := 9, cells := 0, slots := 0, locals := 215 } : Room) (va_Pc [.ref h0, .int (iZ (i))] (fun U => U.heap.size = sz ∧ va_P (dC, dI) vwCl (fw (mE cI cZ cII cIII h0) h0 6325 μ) U.heap ∧ va_K (dC, dI) vwCl (mT cI cZ cII cIII) U)) (va_Qi (fun (r9 : Int32) (u : va_M × Int) => r9 = iZ u.2 ∧ (fun (u : va_M) (r : Int) => fr PS μ u ∧ (u 0 0 = 0 ∨ u 0 0 = 1 ∨ u 0 0 = 2)) u.1 u.2) (fun u t => va_P (dC, dI) vwCl (fw (mE cI cZ cII cIII h0) h0 6325 u.1) t.heap ∧ va_K (dC, dI) vwCl (mT cI cZ cII cIII) t) (fA h0 6325 sz)) 0 0 (fA h0 6325 sz) := by
  refine Met.ofW (cc := cX10_unlike) (maxL := 4) (ret := (some .int)) (by decide) rfl ?_
  intro p e s m args below meth c s₁ B hml hv
  obtain ⟨rfl, hsz, hP, hK⟩ := hv
  have hx := B.exec
  have hb := B.bytes
  have hr := B.returns
  have hts : ∀ w ∈ wsG, w.before _ s = true := hG_of (atoms_spec (ws := (Cond.code yX10_unlike cX10_unlike 4 (some .int) :: wsG)) B.pre)
  have hown : s.vm.findClass RX10 = some m.cls := findClass_of_methodNamed B.named
  have hlocks := B.notSynchronized
  subst hsz
  have hS : va_S (fA h0 6325 s.heap.size) s.heap s.heap [] := va_S.rf
  have hl := lv_entry ([.ref h0, .int (iZ (i))]) (n := 4) (Nat.le_of_ble_eq_true rfl)
  rw [lg_entry_eq]
  generalize (lg_sl ([.ref h0, .int (iZ (i))]) ++ List.replicate (4 - (lg_sl ([.ref h0, .int (iZ (i))])).length) Slot.unset).toArray = ls at hl ⊢
  have hl : lv_has ls 4 [(0, .ref h0), (1, .int (iZ (i)))] := hl
  refine lv_aload_n hx hb dX10_unlike_0 rfl (lv_at hl 0 rfl) ?_
  refine lv_iconst (v := iZ 0) hx hb dX10_unlike_1 rfl ?_
  refine fz_put (D := (dC, dI)) (ci := 10) (ty := .int) (z := 0) (C := RX10) (T := TX10) (N := 53) hx hb hts inG10 tyX10 tyX10_ok nmX10 hown hK hP fA_in hS (k := 0) (by decide) (F := mF h0) mE_obj rfl 0 (by decide) (hts _ k1166) (fun _ h9 => h9) rfl (by decide +kernel) rfl rfl (fun _ => Nat.le_of_ble_eq_true rfl) (fun _ _ => rfl) dX10_unlike_2 (fun H locs hP hS => ?_)
  obtain ⟨μ6, eμ6⟩ : ∃ x : va_M, x = uz μ 0 0 (0) := ⟨_, rfl⟩
  rw [← eμ6] at hP
  have hfr : fr PS μ μ6 := by rw [eμ6]; exact fr_uz fr_rfl (by unfold PS; omega)
  have ht0 : μ6 0 0 = 0 := by rw [eμ6, uz_s]
  have e10 := hfr 0 10 (PS_n (by omega))
  have e9 := hfr 0 9 (PS_n (by omega))
  have e71 := hfr 719 0 (PS_n (by omega))
  have hQ1 := RQ_fr hQ hfr
  have hQc := hQ
  obtain ⟨f10, ⟨fT, fTb, fTw⟩, fS3, fPg, fw9, fwB, fwT⟩ := hQc
  obtain ⟨g10, ⟨gT, gTb, gTw⟩, gS3, gPg, gw, gwB, gwT⟩ := hQ1
  have gtk := TR_tok gwT gwB.1 gwB.2.1
  have gt1 := gtk.1
  have gt2 := gtk.2.1
  refine lv_aload_n hx hb dX10_unlike_5 rfl (lv_at hl 0 rfl) ?_
  refine lv_aload_n hx hb dX10_unlike_6 rfl (lv_at hl 0 rfl) ?_
  refine lv_iload_n hx hb dX10_unlike_7 rfl (lv_at hl 1 rfl) ?_
  refine va_calli (va_runV (As := [.int (iZ (i))]) (rest := [.ref h0]) ⟨hx, hb, hml, hown, hts⟩ (m_isNode l dC dI cI cZ cII cIII h0 H.size μ6 (i) (by first | assumption | omega | exact ⟨by omega, by omega⟩) (by first | assumption | omega | exact ⟨by omega, by omega⟩)) (cwV 1 hts (gV_G k1619 k1621 ks_yX10_isNode k13 k1622) rfl rfl rfl (by decide +kernel) ⟨Nat.le_of_ble_eq_true rfl, Nat.le_of_ble_eq_true rfl⟩) ⟨fun a U g mk q => by obtain ⟨q0, q1, qP, qK⟩ := q; exact ⟨q0, q1, qP, va_K.moved (u := U) (U := U.calling g mk a) (Vm.Alike.refl U.vm) qK⟩, va_recv hK hP (ci := 10) (q0 := 0) rfl ((fw_get (by decide)).trans (by rw [mE_obj]; rfl)), fun U hU hW => ⟨rfl, by rw [hU], by rw [hU]; exact hP, va_K.moved hW.alike hK⟩⟩ rfl rfl hl.1 rfl (lv_room (Nat.le_of_ble_eq_true rfl)) dX10_unlike_8 ⟨Nat.le_of_ble_eq_true rfl, Nat.le_of_ble_eq_true rfl⟩) hS (fun q _ h => fA_le hS.1 q h) (fA_le hS.1) (fun r9 u9 t9 H1 locs ht9 hvm9 hw9 hB9 hz9 hk9 hS => ?_)
  obtain ⟨μ7, r8⟩ := u9
  obtain ⟨hP, -⟩ := hB9
  rw [ht9] at hP
  generalize H1 = H at hP hS ⊢
  obtain ⟨e9, hw9⟩ := hw9
  have e9 : r9 = iZ r8 := e9
  subst e9
  simp only at hP hw9
  have hμ7 := hw9; clear hw9
  rw [hμ7.1] at hP; have hμ7 := hμ7.2
  have hin := hμ7
  have hin2 := if_01 hμ7
  refine fz_if_ne (tgt := 18) (by constructor <;> omega) hx hb dX10_unlike_11 (by decide) (fun c11_ => ?_) (fun c11_ => ?_)
  · have hii := if_get hin (by omega)
    refine lv_iconst (v := iZ 0) hx hb dX10_unlike_18 rfl ?_
    refine lv_iconst (v := iZ 1) hx hb dX10_unlike_19 rfl ?_
    refine lv_iconst (v := iZ 0) hx hb dX10_unlike_20 rfl ?_
    refine va_calli (va_runV (As := [.int (iZ (0)), .int (iZ (1)), .int (iZ (0))]) (rest := []) ⟨hx, hb, hml, hown, hts⟩ (m_bad2 l dC dI cI cZ cII cIII h0 H.size μ6 (0) (1) (0) (by first | assumption | omega | exact ⟨by omega, by omega⟩) (by first | assumption | omega | exact ⟨by omega, by omega⟩) (by first | assumption | omega | exact ⟨by omega, by omega⟩) (by first | assumption | omega | exact ⟨by omega, by omega⟩)) (cwV 3 hts (gV_G k1338 k1340 ks_yX10_bad k13 k1341) rfl rfl rfl (by decide +kernel) ⟨Nat.le_of_ble_eq_true rfl, Nat.le_of_ble_eq_true rfl⟩) ⟨fun a U g mk q => by obtain ⟨q0, q1, qP, qK⟩ := q; exact ⟨q0, q1, qP, va_K.moved (u := U) (U := U.calling g mk a) (Vm.Alike.refl U.vm) qK⟩, va_recv hK hP (ci := 10) (q0 := 0) rfl ((fw_get (by decide)).trans (by rw [mE_obj]; rfl)), fun U hU hW => ⟨rfl, by rw [hU], by rw [hU]; exact hP, va_K.moved hW.alike hK⟩⟩ rfl rfl hl.1 rfl (lv_room (Nat.le_of_ble_eq_true rfl)) dX10_unlike_21 ⟨Nat.le_of_ble_eq_true rfl, Nat.le_of_ble_eq_true rfl⟩) hS (fun q _ h => fA_le hS.1 q h) (fA_le hS.1) (fun r9 u9 t9 H1 locs ht9 hvm9 hw9 hB9 hz9 hk9 hS => ?_)
    obtain ⟨μ10, r11⟩ := u9
    obtain ⟨hP, -⟩ := hB9
    rw [ht9] at hP
    generalize H1 = H at hP hS ⊢
    obtain ⟨e9, hw9⟩ := hw9
    have e9 : r9 = iZ r11 := e9
    subst e9
    simp only at hP hw9
    have hμ10 := hw9; clear hw9
    have hfr := fr_trans hfr (badP_fr hμ10)
    have hrb := badP_r hμ10
    obtain rfl : r11 = 0 := by omega
    refine fz_if_eq (tgt := 29) (by decide) hx hb dX10_unlike_24 (by decide) (fun c24_ => ?_) (fun h9 => absurd h9 (by decide))
    have hQ2 := RQ_fr hQ hfr
    obtain ⟨k10, ⟨kT, kTb, kTw⟩, kS3, kPg, kw, kwB, kwT⟩ := hQ2
    have e10k := hfr 0 10 (PS_n (by omega))
    have e9k := hfr 0 9 (PS_n (by omega))
    have e71k := hfr 719 0 (PS_n (by omega))
    have ktk := TR_tok kwT kwB.1 kwB.2.1
    have kt1 := ktk.1
    have kt2 := ktk.2.1
    obtain ⟨cc1, cc2, cc3, cc4⟩ := ktk.2.2 i.toNat (by omega)
    refine lv_aload_n hx hb dX10_unlike_29 rfl (lv_at hl 0 rfl) ?_
    refine fz_get (D := (dC, dI)) (ci := 10) (v := .ref (h0 + 506)) (C := RX10) (T := TX10) (N := 53) hx hb hts inG10 hown hK hP (k := 0) (by decide) (F := mF h0) mE_obj rfl 18 (by decide) (hts _ k1184) (fun _ h9 => h9) rfl dX10_unlike_30 ?_
    refine lv_iconst (v := iZ 0) hx hb dX10_unlike_33 rfl ?_
    refine fz_ald (k := 506) (n := 70) (k2 := (507 + 0)) hx hb hK hP 2 rfl (by decide) mE_sort rfl ⟨by omega, by omega⟩ (by decide) (if_pos (by omega)) dX10_unlike_34 ?_
    refine lv_iload_n hx hb dX10_unlike_35 rfl (lv_at hl 1 rfl) ?_
    refine fz_ld (k := (507 + 0)) (n := 900) hx hb hK hP 0 (by omega) (mE_sortR (by omega)) rfl ⟨by omega, by omega⟩ (by decide) dX10_unlike_36 ?_
    refine lv_iconst (v := iZ 2) hx hb dX10_unlike_37 rfl ?_
    refine fz_icmp_eq (tgt := 43) (by constructor <;> omega) (by decide) hx hb dX10_unlike_38 (by decide) (fun c38_ => ?_) (fun c38_ => ?_)
    · refine lv_iconst (v := iZ 0) hx hb dX10_unlike_43 rfl ?_
      refine lv_istore_n (lv' := [(2, .int (iZ (0))), (0, .ref h0), (1, .int (iZ (i)))]) hx hb dX10_unlike_44 rfl hl (by decide) rfl (fun ls hl => ?_)
      refine LX10_unlike_45 hx hb hml hown hts hK (Nat.le_of_ble_eq_true rfl) (Nat.le_of_ble_eq_true rfl) (Nat.le_of_ble_eq_true rfl) (Nat.le_of_ble_eq_true rfl) (μ10) (i)  ?_ _ (0) μ10 H locs ls (by omega) (by exact fr_rfl) (by intro x hx; omega) (Nat.lt_succ_self _) hP hS (lv_sub hl [0, 2, 1] rfl)
      · intro k_12 μ12_ H locs ls q1_12 q2_12 hP hS hl
        have hl : lv_has ls 4 [(1, .int (iZ (i))), (0, .ref h0)] := hl
        have ff1 := fr_mono (P2 := PS) q1_12 (fun x y h => by unfold TF at h; unfold PS; omega)
        have e001 := q1_12 0 0 (by unfold TF; omega)
        have e101 := q1_12 0 10 (by unfold TF; omega)
        have fB := q2_12
        refine lv_iconst (v := iZ 0) hx hb dX10_unlike_65 rfl ?_
        refine lv_istore_n (lv' := [(2, .int (iZ (0))), (1, .int (iZ (i))), (0, .ref h0)]) hx hb dX10_unlike_66 rfl hl (by decide) rfl (fun ls hl => ?_)
        refine LX10_unlike_67 hx hb hml hown hts hK (Nat.le_of_ble_eq_true rfl) (Nat.le_of_ble_eq_true rfl) (Nat.le_of_ble_eq_true rfl) (Nat.le_of_ble_eq_true rfl) (μ12_) (i) (by exact hi9) ?_ _ (0) μ12_ H locs ls (by exact RQ_fr (RQ_fr hQ hfr) ff1) (by exact fr_rfl) (by omega) (by rfl) (by exact fB) (Nat.lt_succ_self _) hP hS (lv_sub hl [0, 1, 2] rfl)
        · intro pp_13 μ13_ H locs ls q5_13 q6_13 q7_13 hP hS hl
          have hl : lv_has ls 4 [(1, .int (iZ (i))), (0, .ref h0)] := hl
          have ff2 := q5_13
          have e002 := q6_13
          have gB := q7_13
          refine lv_iconst (v := iZ 0) hx hb dX10_unlike_134 rfl ?_
          refine lv_istore_n (lv' := [(2, .int (iZ (0))), (1, .int (iZ (i))), (0, .ref h0)]) hx hb dX10_unlike_135 rfl hl (by decide) rfl (fun ls hl => ?_)
          refine lv_iconst (v := iZ 0) hx hb dX10_unlike_136 rfl ?_
          refine lv_istore_n (lv' := [(3, .int (iZ (0))), (2, .int (iZ (0))), (1, .int (iZ (i))), (0, .ref h0)]) hx hb dX10_unlike_137 rfl hl (by decide) rfl (fun ls hl => ?_)
          refine LX10_unlike_138 hx hb hml hown hts hK (Nat.le_of_ble_eq_true rfl) (Nat.le_of_ble_eq_true rfl) (Nat.le_of_ble_eq_true rfl) (Nat.le_of_ble_eq_true rfl) (μ13_) (by exact gB) ?_ _ (0) (0) μ13_ H locs ls (by rfl) (by omega) (by omega) (Nat.lt_succ_self _) hP hS (lv_sub hl [0, 1, 3] rfl)
          · intro n_14 k_14 μ14_ H locs ls q8_14 hP hS hl
            have hl : lv_has ls 4 [(2, .int (iZ (n_14)))] := hl
            refine lv_iload_n hx hb dX10_unlike_168 rfl (lv_at hl 0 rfl) ?_
            exact W.iret (v := iZ (n_14)) hx hb hr (fun t9 ht9 hW9 => ⟨⟨iZ (n_14), (μ14_, n_14), rfl, ⟨rfl, (by
                                dsimp only
                                rw [q8_14]
                                exact ⟨fr_trans hfr (fr_trans ff1 ff2), by omega⟩)⟩, by rw [ht9]; exact hP, va_K.moved hW9.alike hK⟩, hS.F ht9⟩) hS.2.2 dX10_unlike_169
    · refine lv_iconst (v := iZ (-1)) hx hb dX10_unlike_41 rfl ?_
      exact W.iret (v := iZ ((-1))) hx hb hr (fun t9 ht9 hW9 => ⟨⟨iZ ((-1)), (μ10, (-1)), rfl, ⟨rfl, (by
                    dsimp only
                    exact ⟨hfr, by omega⟩)⟩, by rw [ht9]; exact hP, va_K.moved hW9.alike hK⟩, hS.F ht9⟩) hS.2.2 dX10_unlike_42
  · refine lv_iconst (v := iZ 1) hx hb dX10_unlike_14 rfl ?_
    refine lv_goto (tgt := 19) hx hb dX10_unlike_15 (by decide) ?_
    refine lv_iconst (v := iZ 1) hx hb dX10_unlike_19 rfl ?_
    refine lv_iconst (v := iZ 0) hx hb dX10_unlike_20 rfl ?_
    refine va_calli (va_runV (As := [.int (iZ (1)), .int (iZ (1)), .int (iZ (0))]) (rest := []) ⟨hx, hb, hml, hown, hts⟩ (m_bad2 l dC dI cI cZ cII cIII h0 H.size μ6 (1) (1) (0) (by first | assumption | omega | exact ⟨by omega, by omega⟩) (by first | assumption | omega | exact ⟨by omega, by omega⟩) (by first | assumption | omega | exact ⟨by omega, by omega⟩) (by first | assumption | omega | exact ⟨by omega, by omega⟩)) (cwV 3 hts (gV_G k1338 k1340 ks_yX10_bad k13 k1341) rfl rfl rfl (by decide +kernel) ⟨Nat.le_of_ble_eq_true rfl, Nat.le_of_ble_eq_true rfl⟩) ⟨fun a U g mk q => by obtain ⟨q0, q1, qP, qK⟩ := q; exact ⟨q0, q1, qP, va_K.moved (u := U) (U := U.calling g mk a) (Vm.Alike.refl U.vm) qK⟩, va_recv hK hP (ci := 10) (q0 := 0) rfl ((fw_get (by decide)).trans (by rw [mE_obj]; rfl)), fun U hU hW => ⟨rfl, by rw [hU], by rw [hU]; exact hP, va_K.moved hW.alike hK⟩⟩ rfl rfl hl.1 rfl (lv_room (Nat.le_of_ble_eq_true rfl)) dX10_unlike_21 ⟨Nat.le_of_ble_eq_true rfl, Nat.le_of_ble_eq_true rfl⟩) hS (fun q _ h => fA_le hS.1 q h) (fA_le hS.1) (fun r9 u9 t9 H1 locs ht9 hvm9 hw9 hB9 hz9 hk9 hS => ?_)
    obtain ⟨μ15, r16⟩ := u9
    obtain ⟨hP, -⟩ := hB9
    rw [ht9] at hP
    generalize H1 = H at hP hS ⊢
    obtain ⟨e9, hw9⟩ := hw9
    have e9 : r9 = iZ r16 := e9
    subst e9
    simp only at hP hw9
    have hμ15 := hw9; clear hw9
    have hfr := fr_trans hfr (badP_fr hμ15)
    have hrb := badP_r hμ15
    obtain rfl : r16 = 1 := by omega
    refine fz_if_eq (tgt := 29) (by decide) hx hb dX10_unlike_24 (by decide) (fun h9 => absurd h9 (by decide)) (fun c24_ => ?_)
    refine lv_iconst (v := iZ 0) hx hb dX10_unlike_27 rfl ?_
    exact W.iret (v := iZ (0)) hx hb hr (fun t9 ht9 hW9 => ⟨⟨iZ (0), (μ15, 0), rfl, ⟨rfl, (by
                dsimp only
                exact ⟨hfr, by omega⟩)⟩, by rw [ht9]; exact hP, va_K.moved hW9.alike hK⟩, hS.F ht9⟩) hS.2.2 dX10_unlike_28

theorem k1205 : (Cond.fieldLink "PageSkeletonModel" (367 : Nat) "PageSkeletonModel" "states" "I") ∈ wsG := wsG_at 1205 (by decide +kernel) (by decide +kernel)
theorem dX10_laysStates_0 : decode cX10_laysStates 0 = .ok (.iconst 0, 1) := by decide +kernel
theorem dX10_laysStates_1 : decode cX10_laysStates 1 = .ok (.istore_n 1, 1) := by decide +kernel
theorem dX10_laysStates_2 : decode cX10_laysStates 2 = .ok (.aload_n 0, 1) := by decide +kernel
theorem dX10_laysStates_3 : decode cX10_laysStates 3 = .ok (.iconst 0, 1) := by decide +kernel
theorem dX10_laysStates_4 : decode cX10_laysStates 4 = .ok (.putfield 367, 3) := by decide +kernel
theorem dX10_laysStates_7 : decode cX10_laysStates 7 = .ok (.iconst 0, 1) := by decide +kernel
theorem dX10_laysStates_8 : decode cX10_laysStates 8 = .ok (.istore_n 2, 1) := by decide +kernel
theorem dX10_laysStates_9 : decode cX10_laysStates 9 = .ok (.iload_n 2, 1) := by decide +kernel
theorem dX10_laysStates_10 : decode cX10_laysStates 10 = .ok (.aload_n 0, 1) := by decide +kernel
theorem dX10_laysStates_11 : decode cX10_laysStates 11 = .ok (.getfield 54, 3) := by decide +kernel
theorem dX10_laysStates_14 : decode cX10_laysStates 14 = .ok (.iconst 0, 1) := by decide +kernel
theorem dX10_laysStates_15 : decode cX10_laysStates 15 = .ok (.iaload, 1) := by decide +kernel
theorem dX10_laysStates_16 : decode cX10_laysStates 16 = .ok (.if_icmp .gt 199, 3) := by decide +kernel
theorem dX10_laysStates_19 : decode cX10_laysStates 19 = .ok (.iload_n 1, 1) := by decide +kernel
theorem dX10_laysStates_20 : decode cX10_laysStates 20 = .ok (.ifCond .le 111, 3) := by decide +kernel
theorem dX10_laysStates_23 : decode cX10_laysStates 23 = .ok (.iload_n 2, 1) := by decide +kernel
theorem dX10_laysStates_24 : decode cX10_laysStates 24 = .ok (.aload_n 0, 1) := by decide +kernel
theorem dX10_laysStates_25 : decode cX10_laysStates 25 = .ok (.getfield 88, 3) := by decide +kernel
theorem dX10_laysStates_28 : decode cX10_laysStates 28 = .ok (.aload_n 0, 1) := by decide +kernel
theorem dX10_laysStates_29 : decode cX10_laysStates 29 = .ok (.getfield 100, 3) := by decide +kernel
theorem dX10_laysStates_32 : decode cX10_laysStates 32 = .ok (.iload_n 1, 1) := by decide +kernel
theorem dX10_laysStates_33 : decode cX10_laysStates 33 = .ok (.iconst 1, 1) := by decide +kernel
theorem dX10_laysStates_34 : decode cX10_laysStates 34 = .ok (.isub, 1) := by decide +kernel
theorem dX10_laysStates_35 : decode cX10_laysStates 35 = .ok (.iaload, 1) := by decide +kernel
theorem dX10_laysStates_36 : decode cX10_laysStates 36 = .ok (.iaload, 1) := by decide +kernel
theorem dX10_laysStates_37 : decode cX10_laysStates 37 = .ok (.aload_n 0, 1) := by decide +kernel
theorem dX10_laysStates_38 : decode cX10_laysStates 38 = .ok (.getfield 51, 3) := by decide +kernel
theorem dX10_laysStates_41 : decode cX10_laysStates 41 = .ok (.iconst 0, 1) := by decide +kernel
theorem dX10_laysStates_42 : decode cX10_laysStates 42 = .ok (.aaload, 1) := by decide +kernel
theorem dX10_laysStates_43 : decode cX10_laysStates 43 = .ok (.aload_n 0, 1) := by decide +kernel
theorem dX10_laysStates_44 : decode cX10_laysStates 44 = .ok (.getfield 88, 3) := by decide +kernel
theorem dX10_laysStates_47 : decode cX10_laysStates 47 = .ok (.aload_n 0, 1) := by decide +kernel
theorem dX10_laysStates_48 : decode cX10_laysStates 48 = .ok (.getfield 100, 3) := by decide +kernel
theorem dX10_laysStates_51 : decode cX10_laysStates 51 = .ok (.iload_n 1, 1) := by decide +kernel
theorem dX10_laysStates_52 : decode cX10_laysStates 52 = .ok (.iconst 1, 1) := by decide +kernel
theorem dX10_laysStates_53 : decode cX10_laysStates 53 = .ok (.isub, 1) := by decide +kernel
theorem dX10_laysStates_54 : decode cX10_laysStates 54 = .ok (.iaload, 1) := by decide +kernel
theorem dX10_laysStates_55 : decode cX10_laysStates 55 = .ok (.iaload, 1) := by decide +kernel
theorem dX10_laysStates_56 : decode cX10_laysStates 56 = .ok (.iaload, 1) := by decide +kernel
theorem dX10_laysStates_57 : decode cX10_laysStates 57 = .ok (.iadd, 1) := by decide +kernel
theorem dX10_laysStates_58 : decode cX10_laysStates 58 = .ok (.if_icmp .ne 73, 3) := by decide +kernel
theorem dX10_laysStates_61 : decode cX10_laysStates 61 = .ok (.aload_n 0, 1) := by decide +kernel
theorem dX10_laysStates_62 : decode cX10_laysStates 62 = .ok (.getfield 100, 3) := by decide +kernel
theorem dX10_laysStates_65 : decode cX10_laysStates 65 = .ok (.iload_n 1, 1) := by decide +kernel
theorem dX10_laysStates_66 : decode cX10_laysStates 66 = .ok (.iconst 1, 1) := by decide +kernel
theorem dX10_laysStates_67 : decode cX10_laysStates 67 = .ok (.isub, 1) := by decide +kernel
theorem dX10_laysStates_68 : decode cX10_laysStates 68 = .ok (.iaload, 1) := by decide +kernel
theorem dX10_laysStates_69 : decode cX10_laysStates 69 = .ok (.istore_n 3, 1) := by decide +kernel
theorem dX10_laysStates_70 : decode cX10_laysStates 70 = .ok (.iinc 1 (-1), 3) := by decide +kernel
theorem dX10_laysStates_73 : decode cX10_laysStates 73 = .ok (.aload_n 0, 1) := by decide +kernel
theorem dX10_laysStates_74 : decode cX10_laysStates 74 = .ok (.getfield 88, 3) := by decide +kernel
theorem dX10_laysStates_77 : decode cX10_laysStates 77 = .ok (.aload_n 0, 1) := by decide +kernel
theorem dX10_laysStates_78 : decode cX10_laysStates 78 = .ok (.getfield 367, 3) := by decide +kernel
theorem dX10_laysStates_81 : decode cX10_laysStates 81 = .ok (.aload_n 0, 1) := by decide +kernel
theorem dX10_laysStates_82 : decode cX10_laysStates 82 = .ok (.getfield 88, 3) := by decide +kernel
theorem dX10_laysStates_85 : decode cX10_laysStates 85 = .ok (.iload_n 3, 1) := by decide +kernel
theorem dX10_laysStates_86 : decode cX10_laysStates 86 = .ok (.iaload, 1) := by decide +kernel
theorem dX10_laysStates_87 : decode cX10_laysStates 87 = .ok (.iastore, 1) := by decide +kernel
theorem dX10_laysStates_88 : decode cX10_laysStates 88 = .ok (.aload_n 0, 1) := by decide +kernel
theorem dX10_laysStates_89 : decode cX10_laysStates 89 = .ok (.getfield 94, 3) := by decide +kernel
theorem dX10_laysStates_92 : decode cX10_laysStates 92 = .ok (.aload_n 0, 1) := by decide +kernel
theorem dX10_laysStates_93 : decode cX10_laysStates 93 = .ok (.getfield 367, 3) := by decide +kernel
theorem dX10_laysStates_96 : decode cX10_laysStates 96 = .ok (.iconst 1, 1) := by decide +kernel
theorem dX10_laysStates_97 : decode cX10_laysStates 97 = .ok (.bastore, 1) := by decide +kernel
theorem dX10_laysStates_98 : decode cX10_laysStates 98 = .ok (.aload_n 0, 1) := by decide +kernel
theorem dX10_laysStates_99 : decode cX10_laysStates 99 = .ok (.getfield 91, 3) := by decide +kernel
theorem dX10_laysStates_102 : decode cX10_laysStates 102 = .ok (.aload_n 0, 1) := by decide +kernel
theorem dX10_laysStates_103 : decode cX10_laysStates 103 = .ok (.getfield 367, 3) := by decide +kernel
theorem dX10_laysStates_106 : decode cX10_laysStates 106 = .ok (.iload_n 3, 1) := by decide +kernel
theorem dX10_laysStates_107 : decode cX10_laysStates 107 = .ok (.iastore, 1) := by decide +kernel
theorem dX10_laysStates_108 : decode cX10_laysStates 108 = .ok (.aload_n 0, 1) := by decide +kernel
theorem dX10_laysStates_109 : decode cX10_laysStates 109 = .ok (.getfield 91, 3) := by decide +kernel
theorem dX10_laysStates_112 : decode cX10_laysStates 112 = .ok (.iload_n 3, 1) := by decide +kernel
theorem dX10_laysStates_113 : decode cX10_laysStates 113 = .ok (.aload_n 0, 1) := by decide +kernel
theorem dX10_laysStates_114 : decode cX10_laysStates 114 = .ok (.getfield 367, 3) := by decide +kernel
theorem dX10_laysStates_117 : decode cX10_laysStates 117 = .ok (.iastore, 1) := by decide +kernel
theorem dX10_laysStates_118 : decode cX10_laysStates 118 = .ok (.aload_n 0, 1) := by decide +kernel
theorem dX10_laysStates_119 : decode cX10_laysStates 119 = .ok (.dup, 1) := by decide +kernel
theorem dX10_laysStates_120 : decode cX10_laysStates 120 = .ok (.getfield 367, 3) := by decide +kernel
theorem dX10_laysStates_123 : decode cX10_laysStates 123 = .ok (.iconst 1, 1) := by decide +kernel
theorem dX10_laysStates_124 : decode cX10_laysStates 124 = .ok (.iadd, 1) := by decide +kernel
theorem dX10_laysStates_125 : decode cX10_laysStates 125 = .ok (.putfield 367, 3) := by decide +kernel
theorem dX10_laysStates_128 : decode cX10_laysStates 128 = .ok (.goto (-109), 3) := by decide +kernel
theorem dX10_laysStates_131 : decode cX10_laysStates 131 = .ok (.iload_n 2, 1) := by decide +kernel
theorem dX10_laysStates_132 : decode cX10_laysStates 132 = .ok (.aload_n 0, 1) := by decide +kernel
theorem dX10_laysStates_133 : decode cX10_laysStates 133 = .ok (.getfield 54, 3) := by decide +kernel
theorem dX10_laysStates_136 : decode cX10_laysStates 136 = .ok (.iconst 0, 1) := by decide +kernel
theorem dX10_laysStates_137 : decode cX10_laysStates 137 = .ok (.iaload, 1) := by decide +kernel
theorem dX10_laysStates_138 : decode cX10_laysStates 138 = .ok (.if_icmp .ne 6, 3) := by decide +kernel
theorem dX10_laysStates_141 : decode cX10_laysStates 141 = .ok (.goto 74, 3) := by decide +kernel
theorem dX10_laysStates_144 : decode cX10_laysStates 144 = .ok (.aload_n 0, 1) := by decide +kernel
theorem dX10_laysStates_145 : decode cX10_laysStates 145 = .ok (.getfield 88, 3) := by decide +kernel
theorem dX10_laysStates_148 : decode cX10_laysStates 148 = .ok (.aload_n 0, 1) := by decide +kernel
theorem dX10_laysStates_149 : decode cX10_laysStates 149 = .ok (.getfield 367, 3) := by decide +kernel
theorem dX10_laysStates_152 : decode cX10_laysStates 152 = .ok (.iload_n 2, 1) := by decide +kernel
theorem dX10_laysStates_153 : decode cX10_laysStates 153 = .ok (.iastore, 1) := by decide +kernel
theorem dX10_laysStates_154 : decode cX10_laysStates 154 = .ok (.aload_n 0, 1) := by decide +kernel
theorem dX10_laysStates_155 : decode cX10_laysStates 155 = .ok (.getfield 94, 3) := by decide +kernel
theorem dX10_laysStates_158 : decode cX10_laysStates 158 = .ok (.aload_n 0, 1) := by decide +kernel
theorem dX10_laysStates_159 : decode cX10_laysStates 159 = .ok (.getfield 367, 3) := by decide +kernel
theorem dX10_laysStates_162 : decode cX10_laysStates 162 = .ok (.iconst 0, 1) := by decide +kernel
theorem dX10_laysStates_163 : decode cX10_laysStates 163 = .ok (.bastore, 1) := by decide +kernel
theorem dX10_laysStates_164 : decode cX10_laysStates 164 = .ok (.aload_n 0, 1) := by decide +kernel
theorem dX10_laysStates_165 : decode cX10_laysStates 165 = .ok (.getfield 91, 3) := by decide +kernel
theorem dX10_laysStates_168 : decode cX10_laysStates 168 = .ok (.aload_n 0, 1) := by decide +kernel
theorem dX10_laysStates_169 : decode cX10_laysStates 169 = .ok (.getfield 367, 3) := by decide +kernel
theorem dX10_laysStates_172 : decode cX10_laysStates 172 = .ok (.iconst (-1), 1) := by decide +kernel
theorem dX10_laysStates_173 : decode cX10_laysStates 173 = .ok (.iastore, 1) := by decide +kernel
theorem dX10_laysStates_174 : decode cX10_laysStates 174 = .ok (.aload_n 0, 1) := by decide +kernel
theorem dX10_laysStates_175 : decode cX10_laysStates 175 = .ok (.getfield 45, 3) := by decide +kernel
theorem dX10_laysStates_178 : decode cX10_laysStates 178 = .ok (.iconst 0, 1) := by decide +kernel
theorem dX10_laysStates_179 : decode cX10_laysStates 179 = .ok (.aaload, 1) := by decide +kernel
theorem dX10_laysStates_180 : decode cX10_laysStates 180 = .ok (.iload_n 2, 1) := by decide +kernel
theorem dX10_laysStates_181 : decode cX10_laysStates 181 = .ok (.iaload, 1) := by decide +kernel
theorem dX10_laysStates_182 : decode cX10_laysStates 182 = .ok (.iconst 3, 1) := by decide +kernel
theorem dX10_laysStates_183 : decode cX10_laysStates 183 = .ok (.if_icmp .lt 16, 3) := by decide +kernel
theorem dX10_laysStates_186 : decode cX10_laysStates 186 = .ok (.aload_n 0, 1) := by decide +kernel
theorem dX10_laysStates_187 : decode cX10_laysStates 187 = .ok (.getfield 100, 3) := by decide +kernel
theorem dX10_laysStates_190 : decode cX10_laysStates 190 = .ok (.iload_n 1, 1) := by decide +kernel
theorem dX10_laysStates_191 : decode cX10_laysStates 191 = .ok (.aload_n 0, 1) := by decide +kernel
theorem dX10_laysStates_192 : decode cX10_laysStates 192 = .ok (.getfield 367, 3) := by decide +kernel
theorem dX10_laysStates_195 : decode cX10_laysStates 195 = .ok (.iastore, 1) := by decide +kernel
theorem dX10_laysStates_196 : decode cX10_laysStates 196 = .ok (.iinc 1 1, 3) := by decide +kernel
theorem dX10_laysStates_199 : decode cX10_laysStates 199 = .ok (.aload_n 0, 1) := by decide +kernel
theorem dX10_laysStates_200 : decode cX10_laysStates 200 = .ok (.dup, 1) := by decide +kernel
theorem dX10_laysStates_201 : decode cX10_laysStates 201 = .ok (.getfield 367, 3) := by decide +kernel
theorem dX10_laysStates_204 : decode cX10_laysStates 204 = .ok (.iconst 1, 1) := by decide +kernel
theorem dX10_laysStates_205 : decode cX10_laysStates 205 = .ok (.iadd, 1) := by decide +kernel
theorem dX10_laysStates_206 : decode cX10_laysStates 206 = .ok (.putfield 367, 3) := by decide +kernel
theorem dX10_laysStates_209 : decode cX10_laysStates 209 = .ok (.iinc 2 1, 3) := by decide +kernel
theorem dX10_laysStates_212 : decode cX10_laysStates 212 = .ok (.goto (-203), 3) := by decide +kernel
theorem dX10_laysStates_215 : decode cX10_laysStates 215 = .ok (.return_, 1) := by decide +kernel
set_option maxHeartbeats 4000000 in
set_option maxRecDepth 100000 in
theorem LX10_laysStates_19 {p : Program} {l : Launch} {e : Env} {R : Room} {s : State} {m : MethodId} {args : Array Value} {below : List Frame} {meth : Method} {c : Code} {cells slots : Nat} {Q : State → Prop} {dC : Nat → ClassId} {dI : Nat → Nat → Nat} {h0 : Nat} {cI cZ cII cIII : ClassId} (hx : p.tables.exec = Jvm.exec) (hb : c.code = cX10_laysStates) (hml : c.maxLocals = 4) (hown : s.vm.findClass RX10 = some m.cls) (hts : ∀ w ∈ wsG, w.before args s = true) (hK : va_K (dC, dI) vwCl (mT cI cZ cII cIII) s) (hRf : 1 ≤ R.frames) (hRl : 14 ≤ R.locals) (hRc : cells ≤ R.cells) (hRs : slots ≤ R.slots) (μ0 : va_M) (w0 : Rw) (i : Int) (hN : rN w0 ≤ 900) (h719 : μ0 719 0 = rN w0) (hi : 0 ≤ i) (hexit131 : ∀ (o9 : Int) (w : Rw) (L : Stk) (q : Nat) (μ : va_M) (H : Heap) (locs : List Loc) (ls : Array Slot), (stI μ0 μ w0 w L i.toNat q ∧ (w = Std.DTreeMap.Internal.Impl.leaf → L = [])) → (o9 = L.length) → va_P (dC, dI) vwCl (fw (mE cI cZ cII cIII h0) h0 6325 μ) H → va_S (fA h0 6325 s.heap.size) s.heap H locs → lv_has ls 4 [(2, .int (iZ (i))), (1, .int (iZ (o9))), (0, .ref h0)] → W p l e R s m args below meth c H locs cells slots Q (F0 m 131 ls [])) :
    ∀ (n9 : Nat) (o9 : Int) (w : Rw) (L : Stk) (q : Nat) (μ : va_M) (H : Heap) (locs : List Loc) (ls : Array Slot), (stI μ0 μ w0 w L i.toNat q) → (o9 = L.length) → L.length < n9 → va_P (dC, dI) vwCl (fw (mE cI cZ cII cIII h0) h0 6325 μ) H → va_S (fA h0 6325 s.heap.size) s.heap H locs → lv_has ls 4 [(2, .int (iZ (i))), (1, .int (iZ (o9))), (0, .ref h0)] → W p l e R s m args below meth c H locs cells slots Q (F0 m 19 ls []) := by
  intro n9
  induction n9 with
  | zero => intro o9 w L q μ H locs ls hI ho hm9 hP hS hl; exact absurd hm9 (Nat.not_lt_zero _)
  | succ n9 ih =>
    intro o9 w L q μ H locs ls hI ho hm9 hP hS hl
    have g2 := hI.2.1
    have g6 := hI.2.2.2.2.2.1
    have g7 := hI.2.2.2.2.2.2.1
    have g8 := hI.2.2.2.2.2.2.2.1
    have gS := rS_N w0
    have gf := hI.1
    refine lv_iload_n hx hb dX10_laysStates_19 rfl (lv_at hl 1 rfl) ?_
    refine fz_if_le (tgt := 131) (by constructor <;> omega) hx hb dX10_laysStates_20 (by decide) (fun c20_ => ?_) (fun c20_ => ?_)
    · exact hexit131 (o9) (w) (L) (q) μ H locs ls (by
                    first
                      | (refine ⟨hI, fun _ => ?_⟩
                         cases L with
                         | nil => rfl
                         | cons a t =>
                           exfalso
                           rw [List.length_cons] at ho
                           omega)
                      | (refine ⟨hI, fun hw => ?_⟩
                         have e0 : rN (Std.DTreeMap.Internal.Impl.leaf : Rw) = 0 := rfl
                         rw [hw, e0] at c58_
                         omega)) (by exact ho) hP hS (lv_sub hl [0, 1, 2] rfl)
    · obtain ⟨a9, t9, hL9⟩ : ∃ (a : Nat × Nat × Rw) (t : Stk), L = a :: t := by
        cases L with
        | nil => exact absurd ho (by show ¬ o9 = ((0 : Nat) : Int); omega)
        | cons a t => exact ⟨a, t, rfl⟩
      have ho2 := ho
      rw [hL9, List.length_cons] at ho2
      have hI2 := hI
      rw [hL9] at hI2
      have g8b := hI2.2.2.2.2.2.2.2.1
      rw [List.length_cons] at g8b
      have hs := hI2.2.2.2.2.1
      obtain ⟨s1, s2, s3, s4, s5, s6, s7, s8⟩ := hs
      have g6b : q + rS w + (1 + rS a9.2.2 + cnt t9) = rS w0 := hI2.2.2.2.2.2.1
      have e649 : μ 649 a9.2.1 = μ0 649 a9.2.1 := gf _ _ (by unfold SF; omega)
      refine lv_iload_n hx hb dX10_laysStates_23 rfl (lv_at hl 0 rfl) ?_
      refine lv_aload_n hx hb dX10_laysStates_24 rfl (lv_at hl 2 rfl) ?_
      refine fz_get (D := (dC, dI)) (ci := 10) (v := .ref (h0 + 4412)) (C := RX10) (T := TX10) (N := 53) hx hb hts inG10 hown hK hP (k := 0) (by decide) (F := mF h0) mE_obj rfl 40 (by decide) (hts _ k1206) (fun _ h9 => h9) rfl dX10_laysStates_25 ?_
      refine lv_aload_n hx hb dX10_laysStates_28 rfl (lv_at hl 2 rfl) ?_
      refine fz_get (D := (dC, dI)) (ci := 10) (v := .ref (h0 + 6316)) (C := RX10) (T := TX10) (N := 53) hx hb hts inG10 hown hK hP (k := 0) (by decide) (F := mF h0) mE_obj rfl 44 (by decide) (hts _ k1210) (fun _ h9 => h9) rfl dX10_laysStates_29 ?_
      refine lv_iload_n hx hb dX10_laysStates_32 rfl (lv_at hl 1 rfl) ?_
      refine lv_iconst (v := iZ 1) hx hb dX10_laysStates_33 rfl ?_
      refine lv_isub hx hb dX10_laysStates_34 ?_
      refine lv_topi (fun x9 ex9 => ?_)
      obtain rfl : x9 = iZ (o9 - 1) := ex9.trans (iZ_sub _ _)
      refine fz_ld (k := 6316) (n := 1900) hx hb hK hP 0 (by decide) mE_opened rfl ⟨by omega, by omega⟩ (by decide) dX10_laysStates_35 ?_
      rw [show μ 6316 (o9 - 1).toNat = (a9.1 : Int) from (by rw [show (o9 - 1).toNat = t9.length by omega]; exact s7)]
      refine fz_ld (k := 4412) (n := 1900) hx hb hK hP 0 (by decide) mE_stateNode rfl ⟨by omega, by omega⟩ (by decide) dX10_laysStates_36 ?_
      rw [show μ 4412 ((a9.1 : Int)).toNat = (a9.2.1 : Int) from (by rw [Int.toNat_natCast]; exact s2)]
      refine lv_aload_n hx hb dX10_laysStates_37 rfl (lv_at hl 2 rfl) ?_
      refine fz_get (D := (dC, dI)) (ci := 10) (v := .ref (h0 + 648)) (C := RX10) (T := TX10) (N := 53) hx hb hts inG10 hown hK hP (k := 0) (by decide) (F := mF h0) mE_obj rfl 20 (by decide) (hts _ k1186) (fun _ h9 => h9) rfl dX10_laysStates_38 ?_
      refine lv_iconst (v := iZ 0) hx hb dX10_laysStates_41 rfl ?_
      refine fz_ald (k := 648) (n := 70) (k2 := (649 + 0)) hx hb hK hP 2 rfl (by decide) mE_span rfl ⟨by omega, by omega⟩ (by decide) (if_pos (by omega)) dX10_laysStates_42 ?_
      refine lv_aload_n hx hb dX10_laysStates_43 rfl (lv_at hl 2 rfl) ?_
      refine fz_get (D := (dC, dI)) (ci := 10) (v := .ref (h0 + 4412)) (C := RX10) (T := TX10) (N := 53) hx hb hts inG10 hown hK hP (k := 0) (by decide) (F := mF h0) mE_obj rfl 40 (by decide) (hts _ k1206) (fun _ h9 => h9) rfl dX10_laysStates_44 ?_
      refine lv_aload_n hx hb dX10_laysStates_47 rfl (lv_at hl 2 rfl) ?_
      refine fz_get (D := (dC, dI)) (ci := 10) (v := .ref (h0 + 6316)) (C := RX10) (T := TX10) (N := 53) hx hb hts inG10 hown hK hP (k := 0) (by decide) (F := mF h0) mE_obj rfl 44 (by decide) (hts _ k1210) (fun _ h9 => h9) rfl dX10_laysStates_48 ?_
      refine lv_iload_n hx hb dX10_laysStates_51 rfl (lv_at hl 1 rfl) ?_
      refine lv_iconst (v := iZ 1) hx hb dX10_laysStates_52 rfl ?_
      refine lv_isub hx hb dX10_laysStates_53 ?_
      refine lv_topi (fun x9 ex9 => ?_)
      obtain rfl : x9 = iZ (o9 - 1) := ex9.trans (iZ_sub _ _)
      refine fz_ld (k := 6316) (n := 1900) hx hb hK hP 0 (by decide) mE_opened rfl ⟨by omega, by omega⟩ (by decide) dX10_laysStates_54 ?_
      rw [show μ 6316 (o9 - 1).toNat = (a9.1 : Int) from (by rw [show (o9 - 1).toNat = t9.length by omega]; exact s7)]
      refine fz_ld (k := 4412) (n := 1900) hx hb hK hP 0 (by decide) mE_stateNode rfl ⟨by omega, by omega⟩ (by decide) dX10_laysStates_55 ?_
      rw [show μ 4412 ((a9.1 : Int)).toNat = (a9.2.1 : Int) from (by rw [Int.toNat_natCast]; exact s2)]
      refine fz_ld (k := (649 + 0)) (n := 900) hx hb hK hP 0 (by omega) (mE_spanR (by omega)) rfl ⟨by omega, by omega⟩ (by decide) dX10_laysStates_56 ?_
      rw [show μ (649 + 0) ((a9.2.1 : Int)).toNat = (i + (rN w : Int) - (a9.2.1 : Int)) from (by rw [Int.toNat_natCast]; show μ 649 a9.2.1 = _; omega)]
      refine lv_iadd hx hb dX10_laysStates_57 ?_
      refine lv_topi (fun x9 ex9 => ?_)
      obtain rfl : x9 = iZ (((a9.2.1 : Int)) + ((i + (rN w : Int) - (a9.2.1 : Int)))) := ex9.trans (iZ_add _ _)
      refine fz_icmp_ne (tgt := 131) (by constructor <;> omega) (by constructor <;> omega) hx hb dX10_laysStates_58 (by decide) (fun c58_ => ?_) (fun c58_ => ?_)
      · exact hexit131 (o9) (w) (L) (q) μ H locs ls (by
                        first
                          | (refine ⟨hI, fun _ => ?_⟩
                             cases L with
                             | nil => rfl
                             | cons a t =>
                               exfalso
                               rw [List.length_cons] at ho
                               omega)
                          | (refine ⟨hI, fun hw => ?_⟩
                             have e0 : rN (Std.DTreeMap.Internal.Impl.leaf : Rw) = 0 := rfl
                             rw [hw, e0] at c58_
                             omega)) (by exact ho) hP hS (lv_sub hl [0, 1, 2] rfl)
      · have hw0 : w = Std.DTreeMap.Internal.Impl.leaf := rw_0 (by omega)
        subst hw0
        refine lv_aload_n hx hb dX10_laysStates_61 rfl (lv_at hl 2 rfl) ?_
        refine fz_get (D := (dC, dI)) (ci := 10) (v := .ref (h0 + 6316)) (C := RX10) (T := TX10) (N := 53) hx hb hts inG10 hown hK hP (k := 0) (by decide) (F := mF h0) mE_obj rfl 44 (by decide) (hts _ k1210) (fun _ h9 => h9) rfl dX10_laysStates_62 ?_
        refine lv_iload_n hx hb dX10_laysStates_65 rfl (lv_at hl 1 rfl) ?_
        refine lv_iconst (v := iZ 1) hx hb dX10_laysStates_66 rfl ?_
        refine lv_isub hx hb dX10_laysStates_67 ?_
        refine lv_topi (fun x9 ex9 => ?_)
        obtain rfl : x9 = iZ (o9 - 1) := ex9.trans (iZ_sub _ _)
        refine fz_ld (k := 6316) (n := 1900) hx hb hK hP 0 (by decide) mE_opened rfl ⟨by omega, by omega⟩ (by decide) dX10_laysStates_68 ?_
        rw [show μ 6316 (o9 - 1).toNat = (a9.1 : Int) from (by rw [show (o9 - 1).toNat = t9.length by omega]; exact s7)]
        refine lv_istore_n (lv' := [(3, .int (iZ ((a9.1 : Int)))), (2, .int (iZ (i))), (1, .int (iZ (o9))), (0, .ref h0)]) hx hb dX10_laysStates_69 rfl hl (by decide) rfl (fun ls hl => ?_)
        refine lv_iinc (v := iZ (o9 - 1)) (lv' := [(1, .int (iZ (o9 - 1))), (3, .int (iZ ((a9.1 : Int)))), (2, .int (iZ (i))), (0, .ref h0)]) hx hb dX10_laysStates_70 hl (k := 2) rfl (iZ_add _ (-1)) (by decide) rfl (fun ls hl => ?_)
        refine lv_aload_n hx hb dX10_laysStates_73 rfl (lv_at hl 3 rfl) ?_
        refine fz_get (D := (dC, dI)) (ci := 10) (v := .ref (h0 + 4412)) (C := RX10) (T := TX10) (N := 53) hx hb hts inG10 hown hK hP (k := 0) (by decide) (F := mF h0) mE_obj rfl 40 (by decide) (hts _ k1206) (fun _ h9 => h9) rfl dX10_laysStates_74 ?_
        refine lv_aload_n hx hb dX10_laysStates_77 rfl (lv_at hl 3 rfl) ?_
        refine fz_get (D := (dC, dI)) (ci := 10) (v := .int (iZ (μ 0 39))) (C := RX10) (T := TX10) (N := 53) hx hb hts inG10 hown hK hP (k := 0) (by decide) (F := mF h0) mE_obj rfl 39 (by decide) (hts _ k1205) (fun _ h9 => h9) rfl dX10_laysStates_78 ?_
        rw [show μ 0 39 = (q : Int) from (by exact hI.2.1)]
        refine lv_aload_n hx hb dX10_laysStates_81 rfl (lv_at hl 3 rfl) ?_
        refine fz_get (D := (dC, dI)) (ci := 10) (v := .ref (h0 + 4412)) (C := RX10) (T := TX10) (N := 53) hx hb hts inG10 hown hK hP (k := 0) (by decide) (F := mF h0) mE_obj rfl 40 (by decide) (hts _ k1206) (fun _ h9 => h9) rfl dX10_laysStates_82 ?_
        refine lv_iload_n hx hb dX10_laysStates_85 rfl (lv_at hl 1 rfl) ?_
        refine fz_ld (k := 4412) (n := 1900) hx hb hK hP 0 (by decide) mE_stateNode rfl ⟨by omega, by omega⟩ (by decide) dX10_laysStates_86 ?_
        rw [show μ 4412 ((a9.1 : Int)).toNat = (a9.2.1 : Int) from (by rw [Int.toNat_natCast]; exact s2)]
        refine fz_st (k := 4412) (n := 1900) (i := ((q : Int))) (z := ((a9.2.1 : Int))) hx hb hK hP fA_in hS 0 (by decide) mE_stateNode rfl ⟨by omega, by omega⟩ (by decide) dX10_laysStates_87 (fun H locs hP hS => ?_)
        obtain ⟨μ1, eμ1⟩ : ∃ x : va_M, x = uz μ 4412 ((q : Int)).toNat ((a9.2.1 : Int)) := ⟨_, rfl⟩
        rw [← eμ1] at hP
        refine lv_aload_n hx hb dX10_laysStates_88 rfl (lv_at hl 3 rfl) ?_
        refine fz_get (D := (dC, dI)) (ci := 10) (v := .ref (h0 + 4414)) (C := RX10) (T := TX10) (N := 53) hx hb hts inG10 hown hK hP (k := 0) (by decide) (F := mF h0) mE_obj rfl 42 (by decide) (hts _ k1208) (fun _ h9 => h9) rfl dX10_laysStates_89 ?_
        refine lv_aload_n hx hb dX10_laysStates_92 rfl (lv_at hl 3 rfl) ?_
        refine fz_get (D := (dC, dI)) (ci := 10) (v := .int (iZ (μ1 0 39))) (C := RX10) (T := TX10) (N := 53) hx hb hts inG10 hown hK hP (k := 0) (by decide) (F := mF h0) mE_obj rfl 39 (by decide) (hts _ k1205) (fun _ h9 => h9) rfl dX10_laysStates_93 ?_
        rw [show μ1 0 39 = μ 0 39 from by rw [eμ1, uz_n (by omega)]]
        rw [show μ 0 39 = (q : Int) from (by exact hI.2.1)]
        refine lv_iconst (v := iZ 1) hx hb dX10_laysStates_96 rfl ?_
        refine fz_zst (k := 4414) (n := 1900) (i := ((q : Int))) (z := 1) hx hb hK hP fA_in hS 1 (by decide) mE_isEnd rfl ⟨by omega, by omega⟩ (by decide) (by decide) dX10_laysStates_97 (fun H locs hP hS => ?_)
        obtain ⟨μ2, eμ2⟩ : ∃ x : va_M, x = uz μ1 4414 ((q : Int)).toNat (1) := ⟨_, rfl⟩
        rw [← eμ2] at hP
        refine lv_aload_n hx hb dX10_laysStates_98 rfl (lv_at hl 3 rfl) ?_
        refine fz_get (D := (dC, dI)) (ci := 10) (v := .ref (h0 + 4413)) (C := RX10) (T := TX10) (N := 53) hx hb hts inG10 hown hK hP (k := 0) (by decide) (F := mF h0) mE_obj rfl 41 (by decide) (hts _ k1207) (fun _ h9 => h9) rfl dX10_laysStates_99 ?_
        refine lv_aload_n hx hb dX10_laysStates_102 rfl (lv_at hl 3 rfl) ?_
        refine fz_get (D := (dC, dI)) (ci := 10) (v := .int (iZ (μ2 0 39))) (C := RX10) (T := TX10) (N := 53) hx hb hts inG10 hown hK hP (k := 0) (by decide) (F := mF h0) mE_obj rfl 39 (by decide) (hts _ k1205) (fun _ h9 => h9) rfl dX10_laysStates_103 ?_
        rw [show μ2 0 39 = μ 0 39 from by rw [eμ2, uz_n (by omega), eμ1, uz_n (by omega)]]
        rw [show μ 0 39 = (q : Int) from (by exact hI.2.1)]
        refine lv_iload_n hx hb dX10_laysStates_106 rfl (lv_at hl 1 rfl) ?_
        refine fz_st (k := 4413) (n := 1900) (i := ((q : Int))) (z := ((a9.1 : Int))) hx hb hK hP fA_in hS 0 (by decide) mE_other rfl ⟨by omega, by omega⟩ (by decide) dX10_laysStates_107 (fun H locs hP hS => ?_)
        obtain ⟨μ3, eμ3⟩ : ∃ x : va_M, x = uz μ2 4413 ((q : Int)).toNat ((a9.1 : Int)) := ⟨_, rfl⟩
        rw [← eμ3] at hP
        refine lv_aload_n hx hb dX10_laysStates_108 rfl (lv_at hl 3 rfl) ?_
        refine fz_get (D := (dC, dI)) (ci := 10) (v := .ref (h0 + 4413)) (C := RX10) (T := TX10) (N := 53) hx hb hts inG10 hown hK hP (k := 0) (by decide) (F := mF h0) mE_obj rfl 41 (by decide) (hts _ k1207) (fun _ h9 => h9) rfl dX10_laysStates_109 ?_
        refine lv_iload_n hx hb dX10_laysStates_112 rfl (lv_at hl 1 rfl) ?_
        refine lv_aload_n hx hb dX10_laysStates_113 rfl (lv_at hl 3 rfl) ?_
        refine fz_get (D := (dC, dI)) (ci := 10) (v := .int (iZ (μ3 0 39))) (C := RX10) (T := TX10) (N := 53) hx hb hts inG10 hown hK hP (k := 0) (by decide) (F := mF h0) mE_obj rfl 39 (by decide) (hts _ k1205) (fun _ h9 => h9) rfl dX10_laysStates_114 ?_
        rw [show μ3 0 39 = μ 0 39 from by rw [eμ3, uz_n (by omega), eμ2, uz_n (by omega), eμ1, uz_n (by omega)]]
        rw [show μ 0 39 = (q : Int) from (by exact hI.2.1)]
        refine fz_st (k := 4413) (n := 1900) (i := ((a9.1 : Int))) (z := ((q : Int))) hx hb hK hP fA_in hS 0 (by decide) mE_other rfl ⟨by omega, by omega⟩ (by decide) dX10_laysStates_117 (fun H locs hP hS => ?_)
        obtain ⟨μ4, eμ4⟩ : ∃ x : va_M, x = uz μ3 4413 ((a9.1 : Int)).toNat ((q : Int)) := ⟨_, rfl⟩
        rw [← eμ4] at hP
        refine lv_aload_n hx hb dX10_laysStates_118 rfl (lv_at hl 3 rfl) ?_
        refine lv_dup hx hb dX10_laysStates_119 rfl ?_
        refine fz_get (D := (dC, dI)) (ci := 10) (v := .int (iZ (μ4 0 39))) (C := RX10) (T := TX10) (N := 53) hx hb hts inG10 hown hK hP (k := 0) (by decide) (F := mF h0) mE_obj rfl 39 (by decide) (hts _ k1205) (fun _ h9 => h9) rfl dX10_laysStates_120 ?_
        rw [show μ4 0 39 = μ 0 39 from by rw [eμ4, uz_n (by omega), eμ3, uz_n (by omega), eμ2, uz_n (by omega), eμ1, uz_n (by omega)]]
        rw [show μ 0 39 = (q : Int) from (by exact hI.2.1)]
        refine lv_iconst (v := iZ 1) hx hb dX10_laysStates_123 rfl ?_
        refine lv_iadd hx hb dX10_laysStates_124 ?_
        refine lv_topi (fun x9 ex9 => ?_)
        obtain rfl : x9 = iZ (((q : Int)) + 1) := ex9.trans (iZ_add _ _)
        refine fz_put (D := (dC, dI)) (ci := 10) (ty := .int) (z := (((q : Int)) + 1)) (C := RX10) (T := TX10) (N := 53) hx hb hts inG10 tyX10 tyX10_ok nmX10 hown hK hP fA_in hS (k := 0) (by decide) (F := mF h0) mE_obj rfl 39 (by decide) (hts _ k1205) (fun _ h9 => h9) rfl (by decide +kernel) rfl rfl (fun _ => Nat.le_of_ble_eq_true rfl) (fun _ _ => rfl) dX10_laysStates_125 (fun H locs hP hS => ?_)
        obtain ⟨μ5, eμ5⟩ : ∃ x : va_M, x = uz μ4 0 39 (((q : Int)) + 1) := ⟨_, rfl⟩
        rw [← eμ5] at hP
        refine lv_goto (tgt := 19) hx hb dX10_laysStates_128 (by decide) ?_
        exact ih (o9 - 1) (a9.2.2) (t9) ((q + 1)) μ5 H locs ls (by
                        subst eμ5 eμ4 eμ3 eμ2 eμ1
                        exact st_close hI2) (by omega) (by rw [hL9, List.length_cons] at hm9; omega) hP hS (lv_sub hl [2, 0, 3] rfl)
set_option maxHeartbeats 4000000 in
set_option maxRecDepth 100000 in
theorem LX10_laysStates_9 {p : Program} {l : Launch} {e : Env} {R : Room} {s : State} {m : MethodId} {args : Array Value} {below : List Frame} {meth : Method} {c : Code} {cells slots : Nat} {Q : State → Prop} {dC : Nat → ClassId} {dI : Nat → Nat → Nat} {h0 : Nat} {cI cZ cII cIII : ClassId} (hx : p.tables.exec = Jvm.exec) (hb : c.code = cX10_laysStates) (hml : c.maxLocals = 4) (hown : s.vm.findClass RX10 = some m.cls) (hts : ∀ w ∈ wsG, w.before args s = true) (hK : va_K (dC, dI) vwCl (mT cI cZ cII cIII) s) (hRf : 1 ≤ R.frames) (hRl : 14 ≤ R.locals) (hRc : cells ≤ R.cells) (hRs : slots ≤ R.slots) (μ0 : va_M) (w0 : Rw) (hN : rN w0 ≤ 900) (h719 : μ0 719 0 = rN w0) (hexit215 : ∀ (i : Int) (o9 : Int) (w : Rw) (L : Stk) (q : Nat) (μ : va_M) (H : Heap) (locs : List Loc) (ls : Array Slot), (fr SF μ0 μ ∧ μ 0 39 = rS w0 ∧ RS μ w0 0 0) → va_P (dC, dI) vwCl (fw (mE cI cZ cII cIII h0) h0 6325 μ) H → va_S (fA h0 6325 s.heap.size) s.heap H locs → lv_has ls 4 [] → W p l e R s m args below meth c H locs cells slots Q (F0 m 215 ls [])) :
    ∀ (n9 : Nat) (i : Int) (o9 : Int) (w : Rw) (L : Stk) (q : Nat) (μ : va_M) (H : Heap) (locs : List Loc) (ls : Array Slot), (0 ≤ i) → (stI μ0 μ w0 w L i.toNat q) → (o9 = L.length) → (1000 - i).toNat < n9 → va_P (dC, dI) vwCl (fw (mE cI cZ cII cIII h0) h0 6325 μ) H → va_S (fA h0 6325 s.heap.size) s.heap H locs → lv_has ls 4 [(2, .int (iZ (i))), (1, .int (iZ (o9))), (0, .ref h0)] → W p l e R s m args below meth c H locs cells slots Q (F0 m 9 ls []) := by
  intro n9
  induction n9 with
  | zero => intro i o9 w L q μ H locs ls hi hI ho hm9 hP hS hl; exact absurd hm9 (Nat.not_lt_zero _)
  | succ n9 ih =>
    intro i o9 w L q μ H locs ls hi hI ho hm9 hP hS hl
    have g2 := hI.2.1
    have g6 := hI.2.2.2.2.2.1
    have g7 := hI.2.2.2.2.2.2.1
    have gS := rS_N w0
    have e719 : μ 719 0 = rN w0 := (hI.1 719 0 (by unfold SF; omega)).trans h719
    refine lv_iload_n hx hb dX10_laysStates_9 rfl (lv_at hl 0 rfl) ?_
    refine lv_aload_n hx hb dX10_laysStates_10 rfl (lv_at hl 2 rfl) ?_
    refine fz_get (D := (dC, dI)) (ci := 10) (v := .ref (h0 + 719)) (C := RX10) (T := TX10) (N := 53) hx hb hts inG10 hown hK hP (k := 0) (by decide) (F := mF h0) mE_obj rfl 21 (by decide) (hts _ k1187) (fun _ h9 => h9) rfl dX10_laysStates_11 ?_
    refine lv_iconst (v := iZ 0) hx hb dX10_laysStates_14 rfl ?_
    refine fz_ld (k := 719) (n := 70) hx hb hK hP 0 (by decide) mE_nodes rfl ⟨by omega, by omega⟩ (by decide) dX10_laysStates_15 ?_
    rw [show (0 : Int).toNat = 0 from rfl]
    refine fz_icmp_gt (tgt := 215) (by constructor <;> omega) (by constructor <;> omega) hx hb dX10_laysStates_16 (by decide) (fun h9 => (by omega)) (fun c16_ => ?_)
    refine LX10_laysStates_19 hx hb hml hown hts hK hRf hRl hRc hRs (μ0) (w0) (i) (by assumption) (by assumption) (by exact hi) ?_ _ (o9) (w) (L) (q) μ H locs ls (by exact hI) (by exact ho) (Nat.lt_succ_self _) hP hS (lv_sub hl [0, 1, 2] rfl)
    · intro o9_6 w_6 L_6 q_6 μ6_ H locs ls q1_6 q2_6 hP hS hl
      have hl : lv_has ls 4 [(2, .int (iZ (i))), (1, .int (iZ (o9_6))), (0, .ref h0)] := hl
      obtain ⟨hJ, hJ0⟩ := q1_6
      have j2 := hJ.2.1
      have j6 := hJ.2.2.2.2.2.1
      have j7 := hJ.2.2.2.2.2.2.1
      have j8 := hJ.2.2.2.2.2.2.2.1
      have jf := hJ.1
      have f719 : μ6_ 719 0 = rN w0 := (jf 719 0 (by unfold SF; omega)).trans h719
      have jo := q2_6
      refine lv_iload_n hx hb dX10_laysStates_131 rfl (lv_at hl 0 rfl) ?_
      refine lv_aload_n hx hb dX10_laysStates_132 rfl (lv_at hl 2 rfl) ?_
      refine fz_get (D := (dC, dI)) (ci := 10) (v := .ref (h0 + 719)) (C := RX10) (T := TX10) (N := 53) hx hb hts inG10 hown hK hP (k := 0) (by decide) (F := mF h0) mE_obj rfl 21 (by decide) (hts _ k1187) (fun _ h9 => h9) rfl dX10_laysStates_133 ?_
      refine lv_iconst (v := iZ 0) hx hb dX10_laysStates_136 rfl ?_
      refine fz_ld (k := 719) (n := 70) hx hb hK hP 0 (by decide) mE_nodes rfl ⟨by omega, by omega⟩ (by decide) dX10_laysStates_137 ?_
      rw [show (0 : Int).toNat = 0 from rfl]
      refine fz_icmp_ne (tgt := 144) (by constructor <;> omega) (by constructor <;> omega) hx hb dX10_laysStates_138 (by decide) (fun c138_ => ?_) (fun c138_ => ?_)
      · obtain ⟨z9, k9, v9, l9, r9, hwe⟩ : ∃ (z k : Nat) (v : Int) (l r : Rw), w_6 = Std.DTreeMap.Internal.Impl.inner z k v l r := by
          cases hw : w_6 with
          | leaf =>
            exfalso
            have hL1 := hJ0 hw
            have hst := hJ.2.2.2.2.1
            rw [hL1, hw] at hst
            have hst : i.toNat + rN (Std.DTreeMap.Internal.Impl.leaf : Rw) = rN w0 := hst
            have e0 : rN (Std.DTreeMap.Internal.Impl.leaf : Rw) = 0 := rfl
            omega
          | inner z k v l r => exact ⟨z, k, v, l, r, rfl⟩
        rw [hwe] at hJ
        have jR := hJ.2.2.1
        have jk : μ6_ 507 i.toNat = k9 := (jf 507 i.toNat (by unfold SF; omega)).trans jR.1
        have j6b : q_6 + rS (Std.DTreeMap.Internal.Impl.inner z9 k9 v9 l9 r9 : Rw) + cnt L_6 = rS w0 := hJ.2.2.2.2.2.1
        rw [rS_in] at j6b
        have j7b : i.toNat + rN (Std.DTreeMap.Internal.Impl.inner z9 k9 v9 l9 r9 : Rw) ≤ rN w0 := hJ.2.2.2.2.2.2.1
        rw [rN_in] at j7b
        refine lv_aload_n hx hb dX10_laysStates_144 rfl (lv_at hl 2 rfl) ?_
        refine fz_get (D := (dC, dI)) (ci := 10) (v := .ref (h0 + 4412)) (C := RX10) (T := TX10) (N := 53) hx hb hts inG10 hown hK hP (k := 0) (by decide) (F := mF h0) mE_obj rfl 40 (by decide) (hts _ k1206) (fun _ h9 => h9) rfl dX10_laysStates_145 ?_
        refine lv_aload_n hx hb dX10_laysStates_148 rfl (lv_at hl 2 rfl) ?_
        refine fz_get (D := (dC, dI)) (ci := 10) (v := .int (iZ (μ6_ 0 39))) (C := RX10) (T := TX10) (N := 53) hx hb hts inG10 hown hK hP (k := 0) (by decide) (F := mF h0) mE_obj rfl 39 (by decide) (hts _ k1205) (fun _ h9 => h9) rfl dX10_laysStates_149 ?_
        rw [show μ6_ 0 39 = (q_6 : Int) from (by exact hJ.2.1)]
        refine lv_iload_n hx hb dX10_laysStates_152 rfl (lv_at hl 0 rfl) ?_
        refine fz_st (k := 4412) (n := 1900) (i := ((q_6 : Int))) (z := i) hx hb hK hP fA_in hS 0 (by decide) mE_stateNode rfl ⟨by omega, by omega⟩ (by decide) dX10_laysStates_153 (fun H locs hP hS => ?_)
        obtain ⟨μ7, eμ7⟩ : ∃ x : va_M, x = uz μ6_ 4412 ((q_6 : Int)).toNat (i) := ⟨_, rfl⟩
        rw [← eμ7] at hP
        refine lv_aload_n hx hb dX10_laysStates_154 rfl (lv_at hl 2 rfl) ?_
        refine fz_get (D := (dC, dI)) (ci := 10) (v := .ref (h0 + 4414)) (C := RX10) (T := TX10) (N := 53) hx hb hts inG10 hown hK hP (k := 0) (by decide) (F := mF h0) mE_obj rfl 42 (by decide) (hts _ k1208) (fun _ h9 => h9) rfl dX10_laysStates_155 ?_
        refine lv_aload_n hx hb dX10_laysStates_158 rfl (lv_at hl 2 rfl) ?_
        refine fz_get (D := (dC, dI)) (ci := 10) (v := .int (iZ (μ7 0 39))) (C := RX10) (T := TX10) (N := 53) hx hb hts inG10 hown hK hP (k := 0) (by decide) (F := mF h0) mE_obj rfl 39 (by decide) (hts _ k1205) (fun _ h9 => h9) rfl dX10_laysStates_159 ?_
        rw [show μ7 0 39 = μ6_ 0 39 from by rw [eμ7, uz_n (by omega)]]
        rw [show μ6_ 0 39 = (q_6 : Int) from (by exact hJ.2.1)]
        refine lv_iconst (v := iZ 0) hx hb dX10_laysStates_162 rfl ?_
        refine fz_zst (k := 4414) (n := 1900) (i := ((q_6 : Int))) (z := 0) hx hb hK hP fA_in hS 1 (by decide) mE_isEnd rfl ⟨by omega, by omega⟩ (by decide) (by decide) dX10_laysStates_163 (fun H locs hP hS => ?_)
        obtain ⟨μ8, eμ8⟩ : ∃ x : va_M, x = uz μ7 4414 ((q_6 : Int)).toNat (0) := ⟨_, rfl⟩
        rw [← eμ8] at hP
        refine lv_aload_n hx hb dX10_laysStates_164 rfl (lv_at hl 2 rfl) ?_
        refine fz_get (D := (dC, dI)) (ci := 10) (v := .ref (h0 + 4413)) (C := RX10) (T := TX10) (N := 53) hx hb hts inG10 hown hK hP (k := 0) (by decide) (F := mF h0) mE_obj rfl 41 (by decide) (hts _ k1207) (fun _ h9 => h9) rfl dX10_laysStates_165 ?_
        refine lv_aload_n hx hb dX10_laysStates_168 rfl (lv_at hl 2 rfl) ?_
        refine fz_get (D := (dC, dI)) (ci := 10) (v := .int (iZ (μ8 0 39))) (C := RX10) (T := TX10) (N := 53) hx hb hts inG10 hown hK hP (k := 0) (by decide) (F := mF h0) mE_obj rfl 39 (by decide) (hts _ k1205) (fun _ h9 => h9) rfl dX10_laysStates_169 ?_
        rw [show μ8 0 39 = μ6_ 0 39 from by rw [eμ8, uz_n (by omega), eμ7, uz_n (by omega)]]
        rw [show μ6_ 0 39 = (q_6 : Int) from (by exact hJ.2.1)]
        refine lv_iconst (v := iZ (-1)) hx hb dX10_laysStates_172 rfl ?_
        refine fz_st (k := 4413) (n := 1900) (i := ((q_6 : Int))) (z := ((-1))) hx hb hK hP fA_in hS 0 (by decide) mE_other rfl ⟨by omega, by omega⟩ (by decide) dX10_laysStates_173 (fun H locs hP hS => ?_)
        obtain ⟨μ10, eμ10⟩ : ∃ x : va_M, x = uz μ8 4413 ((q_6 : Int)).toNat ((-1)) := ⟨_, rfl⟩
        rw [← eμ10] at hP
        refine lv_aload_n hx hb dX10_laysStates_174 rfl (lv_at hl 2 rfl) ?_
        refine fz_get (D := (dC, dI)) (ci := 10) (v := .ref (h0 + 506)) (C := RX10) (T := TX10) (N := 53) hx hb hts inG10 hown hK hP (k := 0) (by decide) (F := mF h0) mE_obj rfl 18 (by decide) (hts _ k1184) (fun _ h9 => h9) rfl dX10_laysStates_175 ?_
        refine lv_iconst (v := iZ 0) hx hb dX10_laysStates_178 rfl ?_
        refine fz_ald (k := 506) (n := 70) (k2 := (507 + 0)) hx hb hK hP 2 rfl (by decide) mE_sort rfl ⟨by omega, by omega⟩ (by decide) (if_pos (by omega)) dX10_laysStates_179 ?_
        refine lv_iload_n hx hb dX10_laysStates_180 rfl (lv_at hl 0 rfl) ?_
        refine fz_ld (k := (507 + 0)) (n := 900) hx hb hK hP 0 (by omega) (mE_sortR (by omega)) rfl ⟨by omega, by omega⟩ (by decide) dX10_laysStates_181 ?_
        rw [show μ10 (507 + 0) (i).toNat = μ6_ (507 + 0) (i).toNat from by rw [eμ10, uz_n (by omega), eμ8, uz_n (by omega), eμ7, uz_n (by omega)]]
        rw [show μ6_ (507 + 0) (i).toNat = (k9 : Int) from (by exact jk)]
        refine lv_iconst (v := iZ 3) hx hb dX10_laysStates_182 rfl ?_
        refine fz_icmp_lt (tgt := 199) (by constructor <;> (have := hJ.2.2.2.1.1; omega)) (by decide) hx hb dX10_laysStates_183 (by decide) (fun c183_ => ?_) (fun c183_ => ?_)
        · obtain ⟨r8, L8, hr8⟩ : ∃ (r : Rw) (L : Stk), stI μ0 (uz (uz (uz (uz μ6_ 4412 q_6 i.toNat) 4414 q_6 0) 4413 q_6 (-1)) 0 39 (q_6 + 1)) w0 r L (i + 1).toNat (q_6 + 1) ∧ (o9_6 : Int) = L.length := ⟨r9, L_6, by rw [show (i + 1).toNat = i.toNat + 1 by omega]; exact st_leaf hJ (by omega), jo⟩
          refine lv_aload_n hx hb dX10_laysStates_199 rfl (lv_at hl 2 rfl) ?_
          refine lv_dup hx hb dX10_laysStates_200 rfl ?_
          refine fz_get (D := (dC, dI)) (ci := 10) (v := .int (iZ (μ10 0 39))) (C := RX10) (T := TX10) (N := 53) hx hb hts inG10 hown hK hP (k := 0) (by decide) (F := mF h0) mE_obj rfl 39 (by decide) (hts _ k1205) (fun _ h9 => h9) rfl dX10_laysStates_201 ?_
          rw [show μ10 0 39 = μ6_ 0 39 from by rw [eμ10, uz_n (by omega), eμ8, uz_n (by omega), eμ7, uz_n (by omega)]]
          rw [show μ6_ 0 39 = (q_6 : Int) from (by exact hJ.2.1)]
          refine lv_iconst (v := iZ 1) hx hb dX10_laysStates_204 rfl ?_
          refine lv_iadd hx hb dX10_laysStates_205 ?_
          refine lv_topi (fun x9 ex9 => ?_)
          obtain rfl : x9 = iZ (((q_6 : Int)) + 1) := ex9.trans (iZ_add _ _)
          refine fz_put (D := (dC, dI)) (ci := 10) (ty := .int) (z := (((q_6 : Int)) + 1)) (C := RX10) (T := TX10) (N := 53) hx hb hts inG10 tyX10 tyX10_ok nmX10 hown hK hP fA_in hS (k := 0) (by decide) (F := mF h0) mE_obj rfl 39 (by decide) (hts _ k1205) (fun _ h9 => h9) rfl (by decide +kernel) rfl rfl (fun _ => Nat.le_of_ble_eq_true rfl) (fun _ _ => rfl) dX10_laysStates_206 (fun H locs hP hS => ?_)
          obtain ⟨μ11, eμ11⟩ : ∃ x : va_M, x = uz μ10 0 39 (((q_6 : Int)) + 1) := ⟨_, rfl⟩
          rw [← eμ11] at hP
          refine lv_iinc (v := iZ (i + 1)) (lv' := [(2, .int (iZ (i + 1))), (1, .int (iZ (o9_6))), (0, .ref h0)]) hx hb dX10_laysStates_209 hl (k := 0) rfl (iZ_add _ _) (by decide) rfl (fun ls hl => ?_)
          refine lv_goto (tgt := 9) hx hb dX10_laysStates_212 (by decide) ?_
          exact ih (i + 1) (o9_6) (r8) (L8) ((q_6 + 1)) μ11 H locs ls (by omega) (by
                            subst eμ11 eμ10 eμ8 eμ7
                            have e1 : (i.toNat : Int) = i := by omega
                            have e2 : o9_6.toNat = L_6.length := by omega
                            have h9 := hr8.1
                            rw [e1] at h9
                            first | exact h9 | (rw [e2]; exact h9)) (by exact hr8.2) (by omega) hP hS (lv_sub hl [0, 1, 2] rfl)
        · obtain ⟨r8, L8, hr8⟩ : ∃ (r : Rw) (L : Stk), stI μ0 (uz (uz (uz (uz (uz μ6_ 4412 q_6 i.toNat) 4414 q_6 0) 4413 q_6 (-1)) 6316 L_6.length q_6) 0 39 (q_6 + 1)) w0 r L (i + 1).toNat (q_6 + 1) ∧ (o9_6 + 1 : Int) = L.length := ⟨l9, (q_6, i.toNat, r9) :: L_6, by rw [show (i + 1).toNat = i.toNat + 1 by omega]; exact st_node hJ (by omega), by rw [List.length_cons]; omega⟩
          refine lv_aload_n hx hb dX10_laysStates_186 rfl (lv_at hl 2 rfl) ?_
          refine fz_get (D := (dC, dI)) (ci := 10) (v := .ref (h0 + 6316)) (C := RX10) (T := TX10) (N := 53) hx hb hts inG10 hown hK hP (k := 0) (by decide) (F := mF h0) mE_obj rfl 44 (by decide) (hts _ k1210) (fun _ h9 => h9) rfl dX10_laysStates_187 ?_
          refine lv_iload_n hx hb dX10_laysStates_190 rfl (lv_at hl 1 rfl) ?_
          refine lv_aload_n hx hb dX10_laysStates_191 rfl (lv_at hl 2 rfl) ?_
          refine fz_get (D := (dC, dI)) (ci := 10) (v := .int (iZ (μ10 0 39))) (C := RX10) (T := TX10) (N := 53) hx hb hts inG10 hown hK hP (k := 0) (by decide) (F := mF h0) mE_obj rfl 39 (by decide) (hts _ k1205) (fun _ h9 => h9) rfl dX10_laysStates_192 ?_
          rw [show μ10 0 39 = μ6_ 0 39 from by rw [eμ10, uz_n (by omega), eμ8, uz_n (by omega), eμ7, uz_n (by omega)]]
          rw [show μ6_ 0 39 = (q_6 : Int) from (by exact hJ.2.1)]
          refine fz_st (k := 6316) (n := 1900) (i := o9_6) (z := ((q_6 : Int))) hx hb hK hP fA_in hS 0 (by decide) mE_opened rfl ⟨by omega, by omega⟩ (by decide) dX10_laysStates_195 (fun H locs hP hS => ?_)
          obtain ⟨μ12, eμ12⟩ : ∃ x : va_M, x = uz μ10 6316 (o9_6).toNat ((q_6 : Int)) := ⟨_, rfl⟩
          rw [← eμ12] at hP
          refine lv_iinc (v := iZ (o9_6 + 1)) (lv' := [(1, .int (iZ (o9_6 + 1))), (2, .int (iZ (i))), (0, .ref h0)]) hx hb dX10_laysStates_196 hl (k := 1) rfl (iZ_add _ _) (by decide) rfl (fun ls hl => ?_)
          refine lv_aload_n hx hb dX10_laysStates_199 rfl (lv_at hl 2 rfl) ?_
          refine lv_dup hx hb dX10_laysStates_200 rfl ?_
          refine fz_get (D := (dC, dI)) (ci := 10) (v := .int (iZ (μ12 0 39))) (C := RX10) (T := TX10) (N := 53) hx hb hts inG10 hown hK hP (k := 0) (by decide) (F := mF h0) mE_obj rfl 39 (by decide) (hts _ k1205) (fun _ h9 => h9) rfl dX10_laysStates_201 ?_
          rw [show μ12 0 39 = μ6_ 0 39 from by rw [eμ12, uz_n (by omega), eμ10, uz_n (by omega), eμ8, uz_n (by omega), eμ7, uz_n (by omega)]]
          rw [show μ6_ 0 39 = (q_6 : Int) from (by exact hJ.2.1)]
          refine lv_iconst (v := iZ 1) hx hb dX10_laysStates_204 rfl ?_
          refine lv_iadd hx hb dX10_laysStates_205 ?_
          refine lv_topi (fun x9 ex9 => ?_)
          obtain rfl : x9 = iZ (((q_6 : Int)) + 1) := ex9.trans (iZ_add _ _)
          refine fz_put (D := (dC, dI)) (ci := 10) (ty := .int) (z := (((q_6 : Int)) + 1)) (C := RX10) (T := TX10) (N := 53) hx hb hts inG10 tyX10 tyX10_ok nmX10 hown hK hP fA_in hS (k := 0) (by decide) (F := mF h0) mE_obj rfl 39 (by decide) (hts _ k1205) (fun _ h9 => h9) rfl (by decide +kernel) rfl rfl (fun _ => Nat.le_of_ble_eq_true rfl) (fun _ _ => rfl) dX10_laysStates_206 (fun H locs hP hS => ?_)
          obtain ⟨μ13, eμ13⟩ : ∃ x : va_M, x = uz μ12 0 39 (((q_6 : Int)) + 1) := ⟨_, rfl⟩
          rw [← eμ13] at hP
          refine lv_iinc (v := iZ (i + 1)) (lv' := [(2, .int (iZ (i + 1))), (1, .int (iZ (o9_6 + 1))), (0, .ref h0)]) hx hb dX10_laysStates_209 hl (k := 1) rfl (iZ_add _ _) (by decide) rfl (fun ls hl => ?_)
          refine lv_goto (tgt := 9) hx hb dX10_laysStates_212 (by decide) ?_
          exact ih (i + 1) (o9_6 + 1) (r8) (L8) ((q_6 + 1)) μ13 H locs ls (by omega) (by
                            subst eμ13 eμ12 eμ10 eμ8 eμ7
                            have e1 : (i.toNat : Int) = i := by omega
                            have e2 : o9_6.toNat = L_6.length := by omega
                            have h9 := hr8.1
                            rw [e1] at h9
                            first | exact h9 | (rw [e2]; exact h9)) (by exact hr8.2) (by omega) hP hS (lv_sub hl [0, 1, 2] rfl)
      · refine lv_goto (tgt := 215) hx hb dX10_laysStates_141 (by decide) ?_
        exact hexit215 (i) (o9) (w) (L) (q) μ6_ H locs ls (by
                        have hN0 : rN w_6 = 0 := by omega
                        obtain hw1 := rw_0 (w := w_6) hN0
                        have hL1 := hJ0 hw1
                        have hJ9 := hJ
                        rw [hw1, hL1] at hJ9
                        have e1 : rS (Std.DTreeMap.Internal.Impl.leaf : Rw) = 0 := rfl
                        have g9 : q_6 + rS (Std.DTreeMap.Internal.Impl.leaf : Rw) + cnt [] = rS w0 := hJ9.2.2.2.2.2.1
                        have e2 : cnt [] = 0 := rfl
                        exact ⟨jf, by omega, hJ9.2.2.2.2.2.2.2.2 _ (fun x hx => ⟨rfl, rfl, fun _ => rfl⟩) trivial trivial⟩) hP hS (lv_sub hl [] rfl)
set_option maxHeartbeats 4000000 in
set_option maxRecDepth 100000 in
theorem m_laysStates (l : Launch) (dC : Nat → ClassId) (dI : Nat → Nat → Nat) (cI cZ cII cIII : ClassId) (h0 sz : Nat) (μ : va_M) (w : Rw) (hT : TR μ 0 w) (hwf : rWF w) (hN : rN w ≤ 900) : Met l yX10_laysStates (Cond.code yX10_laysStates cX10_laysStates 4 none :: wsG) ({ frames := 1, cells := 0, slots := 0, locals := 14 } : Room) (va_Pc [.ref h0] (fun U => U.heap.size = sz ∧ va_P (dC, dI) vwCl (fw (mE cI cZ cII cIII h0) h0 6325 μ) U.heap ∧ va_K (dC, dI) vwCl (mT cI cZ cII cIII) U)) (va_Qv (fun (u : va_M) => fr SF μ u ∧ u 0 39 = rS w ∧ RS u w 0 0) (fun u t => va_P (dC, dI) vwCl (fw (mE cI cZ cII cIII h0) h0 6325 u) t.heap ∧ va_K (dC, dI) vwCl (mT cI cZ cII cIII) t) (fA h0 6325 sz)) 0 0 (fA h0 6325 sz) := by
  refine Met.ofW (cc := cX10_laysStates) (maxL := 4) (ret := none) (by decide) rfl ?_
  intro p e s m args below meth c s₁ B hml hv
  obtain ⟨rfl, hsz, hP, hK⟩ := hv
  have hx := B.exec
  have hb := B.bytes
  have hr := B.returns
  have hts : ∀ w ∈ wsG, w.before _ s = true := hG_of (atoms_spec (ws := (Cond.code yX10_laysStates cX10_laysStates 4 none :: wsG)) B.pre)
  have hown : s.vm.findClass RX10 = some m.cls := findClass_of_methodNamed B.named
  have hlocks := B.notSynchronized
  subst hsz
  have hS : va_S (fA h0 6325 s.heap.size) s.heap s.heap [] := va_S.rf
  have hl := lv_entry ([.ref h0]) (n := 4) (Nat.le_of_ble_eq_true rfl)
  rw [lg_entry_eq]
  generalize (lg_sl ([.ref h0]) ++ List.replicate (4 - (lg_sl ([.ref h0])).length) Slot.unset).toArray = ls at hl ⊢
  have hl : lv_has ls 4 [(0, .ref h0)] := hl
  refine lv_iconst (v := iZ 0) hx hb dX10_laysStates_0 rfl ?_
  refine lv_istore_n (lv' := [(1, .int (iZ (0))), (0, .ref h0)]) hx hb dX10_laysStates_1 rfl hl (by decide) rfl (fun ls hl => ?_)
  refine lv_aload_n hx hb dX10_laysStates_2 rfl (lv_at hl 1 rfl) ?_
  refine lv_iconst (v := iZ 0) hx hb dX10_laysStates_3 rfl ?_
  refine fz_put (D := (dC, dI)) (ci := 10) (ty := .int) (z := 0) (C := RX10) (T := TX10) (N := 53) hx hb hts inG10 tyX10 tyX10_ok nmX10 hown hK hP fA_in hS (k := 0) (by decide) (F := mF h0) mE_obj rfl 39 (by decide) (hts _ k1205) (fun _ h9 => h9) rfl (by decide +kernel) rfl rfl (fun _ => Nat.le_of_ble_eq_true rfl) (fun _ _ => rfl) dX10_laysStates_4 (fun H locs hP hS => ?_)
  obtain ⟨μ14, eμ14⟩ : ∃ x : va_M, x = uz μ 0 39 (0) := ⟨_, rfl⟩
  rw [← eμ14] at hP
  refine lv_iconst (v := iZ 0) hx hb dX10_laysStates_7 rfl ?_
  refine lv_istore_n (lv' := [(2, .int (iZ (0))), (1, .int (iZ (0))), (0, .ref h0)]) hx hb dX10_laysStates_8 rfl hl (by decide) rfl (fun ls hl => ?_)
  refine LX10_laysStates_9 hx hb hml hown hts hK (Nat.le_of_ble_eq_true rfl) (Nat.le_of_ble_eq_true rfl) (Nat.le_of_ble_eq_true rfl) (Nat.le_of_ble_eq_true rfl) (μ14) (w) (by assumption) (by rw [eμ14, uz_n (by omega)]; exact hT.1) ?_ _ (0) (0) (w) ([]) (0) μ14 H locs ls (by decide) (by
            refine ⟨fr_rfl, by rw [eμ14, uz_s]; rfl, ?_, hwf, ?_, ?_, ?_, ?_, fun u _ h _ => h⟩
            · exact (TR_fr (P := SF) hT (by rw [eμ14]; exact fr_uz fr_rfl (by unfold SF; omega)) (fun x => by unfold SF; omega) (by unfold SF; omega)).2
            · show 0 + rN w = rN w
              omega
            · show 0 + rS w + 0 = rS w
              omega
            · show 0 + rN w ≤ rN w
              omega
            · exact Nat.le_refl 0) (by rfl) (Nat.lt_succ_self _) hP hS (lv_sub hl [0, 1, 2] rfl)
  · intro i_15 o9_15 w_15 L_15 q_15 μ15_ H locs ls q3_15 hP hS hl
    have hl : lv_has ls 4 [] := hl
    exact W.vret hx hb hr (fun t9 ht9 hW9 => ⟨⟨μ15_, rfl, (by
                try dsimp only
                obtain ⟨h1, h2, h3⟩ := q3_15
                exact ⟨fr_trans (by rw [eμ14]; exact fr_uz fr_rfl (by unfold SF; omega)) h1, h2, h3⟩), by rw [ht9]; exact hP, va_K.moved hW9.alike hK⟩, hS.F ht9⟩) hS.2.2 dX10_laysStates_215

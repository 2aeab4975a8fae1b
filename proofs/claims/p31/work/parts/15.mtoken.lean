set_option maxRecDepth 100000 in
theorem k1175 : (Cond.fieldLink "PageSkeletonModel" (170 : Nat) "PageSkeletonModel" "unlike" "I") ∈ wsG := wsG_a5 215 rfl rfl
set_option maxRecDepth 100000 in
theorem k1365 : (Cond.methodLink "PageSkeletonModel" (163 : Nat) ({ cls := "PageSkeletonModel", name := "readsSort", desc := "()I" } : MethodName)) ∈ wsG := wsG_a6 165 rfl rfl
set_option maxRecDepth 100000 in
theorem k1367 : (Cond.instanceMethod ({ cls := "PageSkeletonModel", name := "readsSort", desc := "()I" } : MethodName)) ∈ wsG := wsG_a6 167 rfl rfl
set_option maxRecDepth 100000 in
theorem k1368 : (Cond.code ({ cls := "PageSkeletonModel", name := "readsSort", desc := "()I" } : MethodName) prog_12_method_13_code (1 : Nat) (Option.some FieldType.int)) ∈ wsG := wsG_a6 168 rfl rfl
set_option maxRecDepth 100000 in
theorem k1369 : (Cond.methodLink "PageSkeletonModel" (167 : Nat) ({ cls := "PageSkeletonModel", name := "readsName", desc := "()V" } : MethodName)) ∈ wsG := wsG_a6 169 rfl rfl
set_option maxRecDepth 100000 in
theorem k1371 : (Cond.instanceMethod ({ cls := "PageSkeletonModel", name := "readsName", desc := "()V" } : MethodName)) ∈ wsG := wsG_a6 171 rfl rfl
set_option maxRecDepth 100000 in
theorem k1372 : (Cond.code ({ cls := "PageSkeletonModel", name := "readsName", desc := "()V" } : MethodName) prog_12_method_12_code (1 : Nat) (Option.none : Option Jvm.ClassFile.FieldType)) ∈ wsG := wsG_a6 172 rfl rfl
set_option maxRecDepth 100000 in
theorem ks_yX10_readsSort : Cond.selects RX10 yX10_readsSort yX10_readsSort ∈ wsG := wsG_p 53 rfl rfl
set_option maxRecDepth 100000 in
theorem ks_yX10_readsName : Cond.selects RX10 yX10_readsName yX10_readsName ∈ wsG := wsG_p 54 rfl rfl
theorem dX10_readsToken_0 : decode cX10_readsToken 0 = .ok (.aload_n 0, 1) := by decide +kernel
theorem dX10_readsToken_1 : decode cX10_readsToken 1 = .ok (.getfield 142, 3) := by decide +kernel
theorem dX10_readsToken_4 : decode cX10_readsToken 4 = .ok (.istore_n 1, 1) := by decide +kernel
theorem dX10_readsToken_5 : decode cX10_readsToken 5 = .ok (.aload_n 0, 1) := by decide +kernel
theorem dX10_readsToken_6 : decode cX10_readsToken 6 = .ok (.invokevirtual 163, 3) := by decide +kernel
theorem dX10_readsToken_9 : decode cX10_readsToken 9 = .ok (.istore_n 2, 1) := by decide +kernel
theorem dX10_readsToken_10 : decode cX10_readsToken 10 = .ok (.aload_n 0, 1) := by decide +kernel
theorem dX10_readsToken_11 : decode cX10_readsToken 11 = .ok (.invokevirtual 167, 3) := by decide +kernel
theorem dX10_readsToken_14 : decode cX10_readsToken 14 = .ok (.aload_n 0, 1) := by decide +kernel
theorem dX10_readsToken_15 : decode cX10_readsToken 15 = .ok (.getfield 136, 3) := by decide +kernel
theorem dX10_readsToken_18 : decode cX10_readsToken 18 = .ok (.ifCond .ne 43, 3) := by decide +kernel
theorem dX10_readsToken_21 : decode cX10_readsToken 21 = .ok (.iload_n 2, 1) := by decide +kernel
theorem dX10_readsToken_22 : decode cX10_readsToken 22 = .ok (.iconst 2, 1) := by decide +kernel
theorem dX10_readsToken_23 : decode cX10_readsToken 23 = .ok (.if_icmp .ge 38, 3) := by decide +kernel
theorem dX10_readsToken_26 : decode cX10_readsToken 26 = .ok (.aload_n 0, 1) := by decide +kernel
theorem dX10_readsToken_27 : decode cX10_readsToken 27 = .ok (.aload_n 0, 1) := by decide +kernel
theorem dX10_readsToken_28 : decode cX10_readsToken 28 = .ok (.getfield 142, 3) := by decide +kernel
theorem dX10_readsToken_31 : decode cX10_readsToken 31 = .ok (.invokevirtual 145, 3) := by decide +kernel
theorem dX10_readsToken_34 : decode cX10_readsToken 34 = .ok (.bipush 62, 2) := by decide +kernel
theorem dX10_readsToken_36 : decode cX10_readsToken 36 = .ok (.if_icmp .ne 16, 3) := by decide +kernel
theorem dX10_readsToken_39 : decode cX10_readsToken 39 = .ok (.aload_n 0, 1) := by decide +kernel
theorem dX10_readsToken_40 : decode cX10_readsToken 40 = .ok (.dup, 1) := by decide +kernel
theorem dX10_readsToken_41 : decode cX10_readsToken 41 = .ok (.getfield 142, 3) := by decide +kernel
theorem dX10_readsToken_44 : decode cX10_readsToken 44 = .ok (.iconst 1, 1) := by decide +kernel
theorem dX10_readsToken_45 : decode cX10_readsToken 45 = .ok (.iadd, 1) := by decide +kernel
theorem dX10_readsToken_46 : decode cX10_readsToken 46 = .ok (.putfield 142, 3) := by decide +kernel
theorem dX10_readsToken_49 : decode cX10_readsToken 49 = .ok (.goto 12, 3) := by decide +kernel
theorem dX10_readsToken_52 : decode cX10_readsToken 52 = .ok (.aload_n 0, 1) := by decide +kernel
theorem dX10_readsToken_53 : decode cX10_readsToken 53 = .ok (.iconst 1, 1) := by decide +kernel
theorem dX10_readsToken_54 : decode cX10_readsToken 54 = .ok (.aload_n 0, 1) := by decide +kernel
theorem dX10_readsToken_55 : decode cX10_readsToken 55 = .ok (.getfield 142, 3) := by decide +kernel
theorem dX10_readsToken_58 : decode cX10_readsToken 58 = .ok (.invokevirtual 159, 3) := by decide +kernel
theorem dX10_readsToken_61 : decode cX10_readsToken 61 = .ok (.aload_n 0, 1) := by decide +kernel
theorem dX10_readsToken_62 : decode cX10_readsToken 62 = .ok (.getfield 136, 3) := by decide +kernel
theorem dX10_readsToken_65 : decode cX10_readsToken 65 = .ok (.ifCond .le 5, 3) := by decide +kernel
theorem dX10_readsToken_68 : decode cX10_readsToken 68 = .ok (.iconst (-1), 1) := by decide +kernel
theorem dX10_readsToken_69 : decode cX10_readsToken 69 = .ok (.ireturn, 1) := by decide +kernel
theorem dX10_readsToken_70 : decode cX10_readsToken 70 = .ok (.iconst 0, 1) := by decide +kernel
theorem dX10_readsToken_71 : decode cX10_readsToken 71 = .ok (.istore_n 3, 1) := by decide +kernel
theorem dX10_readsToken_72 : decode cX10_readsToken 72 = .ok (.iload_n 3, 1) := by decide +kernel
theorem dX10_readsToken_73 : decode cX10_readsToken 73 = .ok (.aload_n 0, 1) := by decide +kernel
theorem dX10_readsToken_74 : decode cX10_readsToken 74 = .ok (.getfield 170, 3) := by decide +kernel
theorem dX10_readsToken_77 : decode cX10_readsToken 77 = .ok (.if_icmp .ge 34, 3) := by decide +kernel
theorem dX10_readsToken_80 : decode cX10_readsToken 80 = .ok (.aload_n 0, 1) := by decide +kernel
theorem dX10_readsToken_81 : decode cX10_readsToken 81 = .ok (.getfield 20, 3) := by decide +kernel
theorem dX10_readsToken_84 : decode cX10_readsToken 84 = .ok (.iload_n 3, 1) := by decide +kernel
theorem dX10_readsToken_85 : decode cX10_readsToken 85 = .ok (.iaload, 1) := by decide +kernel
theorem dX10_readsToken_86 : decode cX10_readsToken 86 = .ok (.iload_n 2, 1) := by decide +kernel
theorem dX10_readsToken_87 : decode cX10_readsToken 87 = .ok (.if_icmp .ne 18, 3) := by decide +kernel
theorem dX10_readsToken_90 : decode cX10_readsToken 90 = .ok (.aload_n 0, 1) := by decide +kernel
theorem dX10_readsToken_91 : decode cX10_readsToken 91 = .ok (.getfield 23, 3) := by decide +kernel
theorem dX10_readsToken_94 : decode cX10_readsToken 94 = .ok (.iload_n 3, 1) := by decide +kernel
theorem dX10_readsToken_95 : decode cX10_readsToken 95 = .ok (.iaload, 1) := by decide +kernel
theorem dX10_readsToken_96 : decode cX10_readsToken 96 = .ok (.aload_n 0, 1) := by decide +kernel
theorem dX10_readsToken_97 : decode cX10_readsToken 97 = .ok (.getfield 149, 3) := by decide +kernel
theorem dX10_readsToken_100 : decode cX10_readsToken 100 = .ok (.if_icmp .ne 5, 3) := by decide +kernel
theorem dX10_readsToken_103 : decode cX10_readsToken 103 = .ok (.iload_n 3, 1) := by decide +kernel
theorem dX10_readsToken_104 : decode cX10_readsToken 104 = .ok (.ireturn, 1) := by decide +kernel
theorem dX10_readsToken_105 : decode cX10_readsToken 105 = .ok (.iinc 3 1, 3) := by decide +kernel
theorem dX10_readsToken_108 : decode cX10_readsToken 108 = .ok (.goto (-36), 3) := by decide +kernel
theorem dX10_readsToken_111 : decode cX10_readsToken 111 = .ok (.aload_n 0, 1) := by decide +kernel
theorem dX10_readsToken_112 : decode cX10_readsToken 112 = .ok (.getfield 170, 3) := by decide +kernel
theorem dX10_readsToken_115 : decode cX10_readsToken 115 = .ok (.sipush 200, 3) := by decide +kernel
theorem dX10_readsToken_118 : decode cX10_readsToken 118 = .ok (.if_icmp .ne 9, 3) := by decide +kernel
theorem dX10_readsToken_121 : decode cX10_readsToken 121 = .ok (.aload_n 0, 1) := by decide +kernel
theorem dX10_readsToken_122 : decode cX10_readsToken 122 = .ok (.iconst 2, 1) := by decide +kernel
theorem dX10_readsToken_123 : decode cX10_readsToken 123 = .ok (.iload_n 1, 1) := by decide +kernel
theorem dX10_readsToken_124 : decode cX10_readsToken 124 = .ok (.invokevirtual 159, 3) := by decide +kernel
theorem dX10_readsToken_127 : decode cX10_readsToken 127 = .ok (.aload_n 0, 1) := by decide +kernel
theorem dX10_readsToken_128 : decode cX10_readsToken 128 = .ok (.getfield 136, 3) := by decide +kernel
theorem dX10_readsToken_131 : decode cX10_readsToken 131 = .ok (.ifCond .le 5, 3) := by decide +kernel
theorem dX10_readsToken_134 : decode cX10_readsToken 134 = .ok (.iconst (-1), 1) := by decide +kernel
theorem dX10_readsToken_135 : decode cX10_readsToken 135 = .ok (.ireturn, 1) := by decide +kernel
theorem dX10_readsToken_136 : decode cX10_readsToken 136 = .ok (.aload_n 0, 1) := by decide +kernel
theorem dX10_readsToken_137 : decode cX10_readsToken 137 = .ok (.getfield 20, 3) := by decide +kernel
theorem dX10_readsToken_140 : decode cX10_readsToken 140 = .ok (.aload_n 0, 1) := by decide +kernel
theorem dX10_readsToken_141 : decode cX10_readsToken 141 = .ok (.getfield 170, 3) := by decide +kernel
theorem dX10_readsToken_144 : decode cX10_readsToken 144 = .ok (.iload_n 2, 1) := by decide +kernel
theorem dX10_readsToken_145 : decode cX10_readsToken 145 = .ok (.iastore, 1) := by decide +kernel
theorem dX10_readsToken_146 : decode cX10_readsToken 146 = .ok (.aload_n 0, 1) := by decide +kernel
theorem dX10_readsToken_147 : decode cX10_readsToken 147 = .ok (.getfield 23, 3) := by decide +kernel
theorem dX10_readsToken_150 : decode cX10_readsToken 150 = .ok (.aload_n 0, 1) := by decide +kernel
theorem dX10_readsToken_151 : decode cX10_readsToken 151 = .ok (.getfield 170, 3) := by decide +kernel
theorem dX10_readsToken_154 : decode cX10_readsToken 154 = .ok (.aload_n 0, 1) := by decide +kernel
theorem dX10_readsToken_155 : decode cX10_readsToken 155 = .ok (.getfield 149, 3) := by decide +kernel
theorem dX10_readsToken_158 : decode cX10_readsToken 158 = .ok (.iastore, 1) := by decide +kernel
theorem dX10_readsToken_159 : decode cX10_readsToken 159 = .ok (.aload_n 0, 1) := by decide +kernel
theorem dX10_readsToken_160 : decode cX10_readsToken 160 = .ok (.getfield 26, 3) := by decide +kernel
theorem dX10_readsToken_163 : decode cX10_readsToken 163 = .ok (.aload_n 0, 1) := by decide +kernel
theorem dX10_readsToken_164 : decode cX10_readsToken 164 = .ok (.getfield 170, 3) := by decide +kernel
theorem dX10_readsToken_167 : decode cX10_readsToken 167 = .ok (.aload_n 0, 1) := by decide +kernel
theorem dX10_readsToken_168 : decode cX10_readsToken 168 = .ok (.getfield 152, 3) := by decide +kernel
theorem dX10_readsToken_171 : decode cX10_readsToken 171 = .ok (.iastore, 1) := by decide +kernel
theorem dX10_readsToken_172 : decode cX10_readsToken 172 = .ok (.aload_n 0, 1) := by decide +kernel
theorem dX10_readsToken_173 : decode cX10_readsToken 173 = .ok (.dup, 1) := by decide +kernel
theorem dX10_readsToken_174 : decode cX10_readsToken 174 = .ok (.getfield 170, 3) := by decide +kernel
theorem dX10_readsToken_177 : decode cX10_readsToken 177 = .ok (.iconst 1, 1) := by decide +kernel
theorem dX10_readsToken_178 : decode cX10_readsToken 178 = .ok (.iadd, 1) := by decide +kernel
theorem dX10_readsToken_179 : decode cX10_readsToken 179 = .ok (.putfield 170, 3) := by decide +kernel
theorem dX10_readsToken_182 : decode cX10_readsToken 182 = .ok (.aload_n 0, 1) := by decide +kernel
theorem dX10_readsToken_183 : decode cX10_readsToken 183 = .ok (.getfield 170, 3) := by decide +kernel
theorem dX10_readsToken_186 : decode cX10_readsToken 186 = .ok (.iconst 1, 1) := by decide +kernel
theorem dX10_readsToken_187 : decode cX10_readsToken 187 = .ok (.isub, 1) := by decide +kernel
theorem dX10_readsToken_188 : decode cX10_readsToken 188 = .ok (.ireturn, 1) := by decide +kernel
/-- where a token's name begins, by its sort: 0 opens, 1 closes, 2 a word -/
def tkB (μ : va_M) (a s n : Int) : Prop := (sm (bA μ a) ∧ s = 2 ∧ n = a) ∨ (¬ sm (bA μ a) ∧ bA μ (a + 1) ≠ 47 ∧ s = 0 ∧ n = a + 1) ∨ (¬ sm (bA μ a) ∧ bA μ (a + 1) = 47 ∧ s = 1 ∧ n = a + 2)
/-- a whole token: its name of L letters, and what ends it -/
def tkOk (μ : va_M) (s n : Int) (L : Nat) : Prop := 1 ≤ L ∧ L ≤ 6 ∧ ¬ sm (bA μ (n + L)) ∧ (s < 2 → bA μ (n + L) = 62)
/-- the k-th unlike token is that one -/
def tkIs (μ : va_M) (s v : Int) (k : Nat) : Prop := μ 3 k = s ∧ μ 4 k = v
def okU (μ : va_M) : Prop := 0 ≤ μ 0 9 ∧ μ 0 9 ≤ 200 ∧ ∀ k : Nat, (k : Int) < μ 0 9 → inR (μ 3 k) ∧ inR (μ 4 k)
theorem nmV_fr {P : Nat → Nat → Prop} {μ u : va_M} (h : fr P μ u) (h3 : ¬ P 0 3) (h2 : ∀ j, ¬ P 2 j) (a : Int) : ∀ L : Nat, nmV u a L = nmV μ a L
  | 0 => rfl
  | L + 1 => by rw [nmV, nmV, nmV_fr h h3 h2 a L, bA_fr h h3 h2]
set_option maxHeartbeats 4000000 in
set_option maxRecDepth 100000 in
theorem LX10_readsToken_72 {p : Program} {l : Launch} {e : Env} {R : Room} {s : State} {m : MethodId} {args : Array Value} {below : List Frame} {meth : Method} {c : Code} {cells slots : Nat} {Q : State → Prop} {dC : Nat → ClassId} {dI : Nat → Nat → Nat} {h0 : Nat} {cI cZ cII cIII : ClassId} (hx : p.tables.exec = Jvm.exec) (hb : c.code = cX10_readsToken) (hml : c.maxLocals = 4) (hown : s.vm.findClass RX10 = some m.cls) (hts : ∀ w ∈ wsG, w.before args s = true) (hK : va_K (dC, dI) vwCl (mT cI cZ cII cIII) s) (hRf : 3 ≤ R.frames) (hRl : 56 ≤ R.locals) (hRc : cells ≤ R.cells) (hRs : slots ≤ R.slots) (μ0 : va_M) (b : Int) (q2 : Int) (hU : okU μ0) (hs : inR q2) (hv : inR (μ0 0 27)) (hexit103 : ∀ (k : Int) (μ : va_M) (H : Heap) (locs : List Loc) (ls : Array Slot), (μ = μ0) → (0 ≤ k ∧ k < μ0 0 9) → (tkIs μ0 q2 (μ0 0 27) k.toNat) → (∀ j : Nat, (j : Int) < k → ¬ tkIs μ0 q2 (μ0 0 27) j) → va_P (dC, dI) vwCl (fw (mE cI cZ cII cIII h0) h0 6325 μ) H → va_S (fA h0 6325 s.heap.size) s.heap H locs → lv_has ls 4 [(3, .int (iZ (k))), (0, .ref h0), (1, .int (iZ (b))), (2, .int (iZ (q2)))] → W p l e R s m args below meth c H locs cells slots Q (F0 m 103 ls [])) (hexit111 : ∀ (k : Int) (μ : va_M) (H : Heap) (locs : List Loc) (ls : Array Slot), (μ = μ0) → (∀ j : Nat, (j : Int) < μ0 0 9 → ¬ tkIs μ0 q2 (μ0 0 27) j) → va_P (dC, dI) vwCl (fw (mE cI cZ cII cIII h0) h0 6325 μ) H → va_S (fA h0 6325 s.heap.size) s.heap H locs → lv_has ls 4 [(0, .ref h0), (1, .int (iZ (b))), (2, .int (iZ (q2)))] → W p l e R s m args below meth c H locs cells slots Q (F0 m 111 ls [])) :
    ∀ (n9 : Nat) (k : Int) (μ : va_M) (H : Heap) (locs : List Loc) (ls : Array Slot), (0 ≤ k ∧ k ≤ μ0 0 9) → (μ = μ0) → (∀ j : Nat, (j : Int) < k → ¬ tkIs μ0 q2 (μ0 0 27) j) → (201 - k).toNat < n9 → va_P (dC, dI) vwCl (fw (mE cI cZ cII cIII h0) h0 6325 μ) H → va_S (fA h0 6325 s.heap.size) s.heap H locs → lv_has ls 4 [(3, .int (iZ (k))), (0, .ref h0), (1, .int (iZ (b))), (2, .int (iZ (q2)))] → W p l e R s m args below meth c H locs cells slots Q (F0 m 72 ls []) := by
  intro n9
  induction n9 with
  | zero => intro k μ H locs ls hk hm hno hm9 hP hS hl; exact absurd hm9 (Nat.not_lt_zero _)
  | succ n9 ih =>
    intro k μ H locs ls hk hm hno hm9 hP hS hl
    subst hm
    obtain ⟨hU1, hU2, hU3⟩ := hU
    refine lv_iload_n hx hb dX10_readsToken_72 rfl (lv_at hl 0 rfl) ?_
    refine lv_aload_n hx hb dX10_readsToken_73 rfl (lv_at hl 1 rfl) ?_
    refine fz_get (D := (dC, dI)) (ci := 10) (v := .int (iZ (μ 0 9))) (C := RX10) (T := TX10) (N := 53) hx hb hts inG10 hown hK hP (k := 0) (by decide) (F := mF h0) mE_obj rfl 9 (by decide) (hts _ k1175) (fun _ h9 => h9) rfl dX10_readsToken_74 ?_
    refine fz_icmp_ge (tgt := 111) (by constructor <;> omega) (by constructor <;> omega) hx hb dX10_readsToken_77 (by decide) (fun c77_ => ?_) (fun c77_ => ?_)
    · exact hexit111 (k) μ H locs ls (by rfl) (by intro j hj; exact hno j (by omega)) hP hS (lv_sub hl [1, 2, 3] rfl)
    · have hu9 := hU3 k.toNat (by omega)
      refine lv_aload_n hx hb dX10_readsToken_80 rfl (lv_at hl 1 rfl) ?_
      refine fz_get (D := (dC, dI)) (ci := 10) (v := .ref (h0 + 3)) (C := RX10) (T := TX10) (N := 53) hx hb hts inG10 hown hK hP (k := 0) (by decide) (F := mF h0) mE_obj rfl 11 (by decide) (hts _ k1177) (fun _ h9 => h9) rfl dX10_readsToken_81 ?_
      refine lv_iload_n hx hb dX10_readsToken_84 rfl (lv_at hl 0 rfl) ?_
      refine fz_ld (k := 3) (n := 201) hx hb hK hP 0 (by decide) mE_tokenSort rfl ⟨by omega, by omega⟩ (by decide) dX10_readsToken_85 ?_
      refine lv_iload_n hx hb dX10_readsToken_86 rfl (lv_at hl 3 rfl) ?_
      refine fz_icmp_ne (tgt := 105) (by constructor <;> omega) (by constructor <;> omega) hx hb dX10_readsToken_87 (by decide) (fun c87_ => ?_) (fun c87_ => ?_)
      · refine lv_iinc (v := iZ (k + 1)) (lv' := [(3, .int (iZ (k + 1))), (0, .ref h0), (1, .int (iZ (b))), (2, .int (iZ (q2)))]) hx hb dX10_readsToken_105 hl (k := 0) rfl (iZ_add _ _) (by decide) rfl (fun ls hl => ?_)
        refine lv_goto (tgt := 72) hx hb dX10_readsToken_108 (by decide) ?_
        exact ih (k + 1) μ H locs ls (by omega) (by rfl) (by
                        intro j hj
                        by_cases h9 : (j : Int) < k
                        · exact hno j h9
                        · obtain rfl : j = k.toNat := by omega
                          unfold tkIs; omega) (by omega) hP hS (lv_sub hl [0, 1, 2, 3] rfl)
      · refine lv_aload_n hx hb dX10_readsToken_90 rfl (lv_at hl 1 rfl) ?_
        refine fz_get (D := (dC, dI)) (ci := 10) (v := .ref (h0 + 4)) (C := RX10) (T := TX10) (N := 53) hx hb hts inG10 hown hK hP (k := 0) (by decide) (F := mF h0) mE_obj rfl 12 (by decide) (hts _ k1178) (fun _ h9 => h9) rfl dX10_readsToken_91 ?_
        refine lv_iload_n hx hb dX10_readsToken_94 rfl (lv_at hl 0 rfl) ?_
        refine fz_ld (k := 4) (n := 201) hx hb hK hP 0 (by decide) mE_tokenLetters rfl ⟨by omega, by omega⟩ (by decide) dX10_readsToken_95 ?_
        refine lv_aload_n hx hb dX10_readsToken_96 rfl (lv_at hl 1 rfl) ?_
        refine fz_get (D := (dC, dI)) (ci := 10) (v := .int (iZ (μ 0 27))) (C := RX10) (T := TX10) (N := 53) hx hb hts inG10 hown hK hP (k := 0) (by decide) (F := mF h0) mE_obj rfl 27 (by decide) (hts _ k1193) (fun _ h9 => h9) rfl dX10_readsToken_97 ?_
        refine fz_icmp_ne (tgt := 105) (by constructor <;> omega) (by constructor <;> omega) hx hb dX10_readsToken_100 (by decide) (fun c100_ => ?_) (fun c100_ => ?_)
        · refine lv_iinc (v := iZ (k + 1)) (lv' := [(3, .int (iZ (k + 1))), (0, .ref h0), (1, .int (iZ (b))), (2, .int (iZ (q2)))]) hx hb dX10_readsToken_105 hl (k := 0) rfl (iZ_add _ _) (by decide) rfl (fun ls hl => ?_)
          refine lv_goto (tgt := 72) hx hb dX10_readsToken_108 (by decide) ?_
          exact ih (k + 1) μ H locs ls (by omega) (by rfl) (by
                            intro j hj
                            by_cases h9 : (j : Int) < k
                            · exact hno j h9
                            · obtain rfl : j = k.toNat := by omega
                              unfold tkIs; omega) (by omega) hP hS (lv_sub hl [0, 1, 2, 3] rfl)
        · exact hexit103 (k) μ H locs ls (by rfl) (by omega) (by exact ⟨by omega, by omega⟩) (by exact hno) hP hS (lv_sub hl [0, 1, 2, 3] rfl)

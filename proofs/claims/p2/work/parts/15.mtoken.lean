theorem k1175 : (Cond.fieldLink "PageSkeletonModel" (170 : Nat) "PageSkeletonModel" "unlike" "I") ∈ wsG := wsG_at 1175 (by decide +kernel) (by decide +kernel)
theorem k1361 : (Cond.methodLink "PageSkeletonModel" (163 : Nat) ({ cls := "PageSkeletonModel", name := "readsSort", desc := "()I" } : MethodName)) ∈ wsG := wsG_at 1361 (by decide +kernel) (by decide +kernel)
theorem k1363 : (Cond.instanceMethod ({ cls := "PageSkeletonModel", name := "readsSort", desc := "()I" } : MethodName)) ∈ wsG := wsG_at 1363 (by decide +kernel) (by decide +kernel)
theorem k1364 : (Cond.code ({ cls := "PageSkeletonModel", name := "readsSort", desc := "()I" } : MethodName) prog_12_method_13_code (1 : Nat) (Option.some FieldType.int)) ∈ wsG := wsG_at 1364 (by decide +kernel) (by decide +kernel)
theorem k1365 : (Cond.methodLink "PageSkeletonModel" (167 : Nat) ({ cls := "PageSkeletonModel", name := "readsName", desc := "()V" } : MethodName)) ∈ wsG := wsG_at 1365 (by decide +kernel) (by decide +kernel)
theorem k1367 : (Cond.instanceMethod ({ cls := "PageSkeletonModel", name := "readsName", desc := "()V" } : MethodName)) ∈ wsG := wsG_at 1367 (by decide +kernel) (by decide +kernel)
theorem k1368 : (Cond.code ({ cls := "PageSkeletonModel", name := "readsName", desc := "()V" } : MethodName) prog_12_method_12_code (1 : Nat) (Option.none : Option Jvm.ClassFile.FieldType)) ∈ wsG := wsG_at 1368 (by decide +kernel) (by decide +kernel)
theorem ks_yX10_readsSort : Cond.selects RX10 yX10_readsSort yX10_readsSort ∈ wsG := wsG_mem (by decide +kernel) (by decide +kernel)
theorem ks_yX10_readsName : Cond.selects RX10 yX10_readsName yX10_readsName ∈ wsG := wsG_mem (by decide +kernel) (by decide +kernel)
theorem dX10_readsToken_0 : decode cX10_readsToken 0 = .ok (.aload_n 0, 1) := by decide +kernel
theorem dX10_readsToken_1 : decode cX10_readsToken 1 = .ok (.getfield 142, 3) := by decide +kernel
theorem dX10_readsToken_4 : decode cX10_readsToken 4 = .ok (.istore_n 1, 1) := by decide +kernel
theorem dX10_readsToken_5 : decode cX10_readsToken 5 = .ok (.aload_n 0, 1) := by decide +kernel
theorem dX10_readsToken_6 : decode cX10_readsToken 6 = .ok (.invokevirtual 163, 3) := by decide +kernel
theorem dX10_readsToken_9 : decode cX10_readsToken 9 = .ok (.istore_n 2, 1) := by decide +kernel
theorem dX10_readsToken_10 : decode cX10_readsToken 10 = .ok (.aload_n 0, 1) := by decide +kernel
theorem dX10_readsToken_11 : decode cX10_readsToken 11 = .ok (.invokevirtual 167, 3) := by decide +kernel
theorem dX10_readsToken_14 : decode cX10_readsToken 14 = .ok (.aload_n 0, 1) := by decide +kernel
theorem dX10_readsToken_15 : decode cX10_readsToken 15 = .ok (.getfield 136, 3) := by decide +kernel
theorem dX10_readsToken_18 : decode cX10_readsToken 18 = .ok (.ifCond .ne 43, 3) := by decide +kernel
theorem dX10_readsToken_21 : decode cX10_readsToken 21 = .ok (.iload_n 2, 1) := by decide +kernel
theorem dX10_readsToken_22 : decode cX10_readsToken 22 = .ok (.iconst 2, 1) := by decide +kernel
theorem dX10_readsToken_23 : decode cX10_readsToken 23 = .ok (.if_icmp .ge 38, 3) := by decide +kernel
theorem dX10_readsToken_26 : decode cX10_readsToken 26 = .ok (.aload_n 0, 1) := by decide +kernel
theorem dX10_readsToken_27 : decode cX10_readsToken 27 = .ok (.aload_n 0, 1) := by decide +kernel
theorem dX10_readsToken_28 : decode cX10_readsToken 28 = .ok (.getfield 142, 3) := by decide +kernel
theorem dX10_readsToken_31 : decode cX10_readsToken 31 = .ok (.invokevirtual 145, 3) := by decide +kernel
theorem dX10_readsToken_34 : decode cX10_readsToken 34 = .ok (.bipush 62, 2) := by decide +kernel
theorem dX10_readsToken_36 : decode cX10_readsToken 36 = .ok (.if_icmp .ne 16, 3) := by decide +kernel
theorem dX10_readsToken_39 : decode cX10_readsToken 39 = .ok (.aload_n 0, 1) := by decide +kernel
theorem dX10_readsToken_40 : decode cX10_readsToken 40 = .ok (.dup, 1) := by decide +kernel
theorem dX10_readsToken_41 : decode cX10_readsToken 41 = .ok (.getfield 142, 3) := by decide +kernel
theorem dX10_readsToken_44 : decode cX10_readsToken 44 = .ok (.iconst 1, 1) := by decide +kernel
theorem dX10_readsToken_45 : decode cX10_readsToken 45 = .ok (.iadd, 1) := by decide +kernel
theorem dX10_readsToken_46 : decode cX10_readsToken 46 = .ok (.putfield 142, 3) := by decide +kernel
theorem dX10_readsToken_49 : decode cX10_readsToken 49 = .ok (.goto 12, 3) := by decide +kernel
theorem dX10_readsToken_52 : decode cX10_readsToken 52 = .ok (.aload_n 0, 1) := by decide +kernel
theorem dX10_readsToken_53 : decode cX10_readsToken 53 = .ok (.iconst 1, 1) := by decide +kernel
theorem dX10_readsToken_54 : decode cX10_readsToken 54 = .ok (.aload_n 0, 1) := by decide +kernel
theorem dX10_readsToken_55 : decode cX10_readsToken 55 = .ok (.getfield 142, 3) := by decide +kernel
theorem dX10_readsToken_58 : decode cX10_readsToken 58 = .ok (.invokevirtual 159, 3) := by decide +kernel
theorem dX10_readsToken_61 : decode cX10_readsToken 61 = .ok (.aload_n 0, 1) := by decide +kernel
theorem dX10_readsToken_62 : decode cX10_readsToken 62 = .ok (.getfield 136, 3) := by decide +kernel
theorem dX10_readsToken_65 : decode cX10_readsToken 65 = .ok (.ifCond .le 5, 3) := by decide +kernel
theorem dX10_readsToken_68 : decode cX10_readsToken 68 = .ok (.iconst (-1), 1) := by decide +kernel
theorem dX10_readsToken_69 : decode cX10_readsToken 69 = .ok (.ireturn, 1) := by decide +kernel
theorem dX10_readsToken_70 : decode cX10_readsToken 70 = .ok (.iconst 0, 1) := by decide +kernel
theorem dX10_readsToken_71 : decode cX10_readsToken 71 = .ok (.istore_n 3, 1) := by decide +kernel
theorem dX10_readsToken_72 : decode cX10_readsToken 72 = .ok (.iload_n 3, 1) := by decide +kernel
theorem dX10_readsToken_73 : decode cX10_readsToken 73 = .ok (.aload_n 0, 1) := by decide +kernel
theorem dX10_readsToken_74 : decode cX10_readsToken 74 = .ok (.getfield 170, 3) := by decide +kernel
theorem dX10_readsToken_77 : decode cX10_readsToken 77 = .ok (.if_icmp .ge 34, 3) := by decide +kernel
theorem dX10_readsToken_80 : decode cX10_readsToken 80 = .ok (.aload_n 0, 1) := by decide +kernel
theorem dX10_readsToken_81 : decode cX10_readsToken 81 = .ok (.getfield 20, 3) := by decide +kernel
theorem dX10_readsToken_84 : decode cX10_readsToken 84 = .ok (.iload_n 3, 1) := by decide +kernel
theorem dX10_readsToken_85 : decode cX10_readsToken 85 = .ok (.iaload, 1) := by decide +kernel
theorem dX10_readsToken_86 : decode cX10_readsToken 86 = .ok (.iload_n 2, 1) := by decide +kernel
theorem dX10_readsToken_87 : decode cX10_readsToken 87 = .ok (.if_icmp .ne 18, 3) := by decide +kernel
theorem dX10_readsToken_90 : decode cX10_readsToken 90 = .ok (.aload_n 0, 1) := by decide +kernel
theorem dX10_readsToken_91 : decode cX10_readsToken 91 = .ok (.getfield 23, 3) := by decide +kernel
theorem dX10_readsToken_94 : decode cX10_readsToken 94 = .ok (.iload_n 3, 1) := by decide +kernel
theorem dX10_readsToken_95 : decode cX10_readsToken 95 = .ok (.iaload, 1) := by decide +kernel
theorem dX10_readsToken_96 : decode cX10_readsToken 96 = .ok (.aload_n 0, 1) := by decide +kernel
theorem dX10_readsToken_97 : decode cX10_readsToken 97 = .ok (.getfield 149, 3) := by decide +kernel
theorem dX10_readsToken_100 : decode cX10_readsToken 100 = .ok (.if_icmp .ne 5, 3) := by decide +kernel
theorem dX10_readsToken_103 : decode cX10_readsToken 103 = .ok (.iload_n 3, 1) := by decide +kernel
theorem dX10_readsToken_104 : decode cX10_readsToken 104 = .ok (.ireturn, 1) := by decide +kernel
theorem dX10_readsToken_105 : decode cX10_readsToken 105 = .ok (.iinc 3 1, 3) := by decide +kernel
theorem dX10_readsToken_108 : decode cX10_readsToken 108 = .ok (.goto (-36), 3) := by decide +kernel
theorem dX10_readsToken_111 : decode cX10_readsToken 111 = .ok (.aload_n 0, 1) := by decide +kernel
theorem dX10_readsToken_112 : decode cX10_readsToken 112 = .ok (.getfield 170, 3) := by decide +kernel
theorem dX10_readsToken_115 : decode cX10_readsToken 115 = .ok (.sipush 200, 3) := by decide +kernel
theorem dX10_readsToken_118 : decode cX10_readsToken 118 = .ok (.if_icmp .ne 9, 3) := by decide +kernel
theorem dX10_readsToken_121 : decode cX10_readsToken 121 = .ok (.aload_n 0, 1) := by decide +kernel
theorem dX10_readsToken_122 : decode cX10_readsToken 122 = .ok (.iconst 2, 1) := by decide +kernel
theorem dX10_readsToken_123 : decode cX10_readsToken 123 = .ok (.iload_n 1, 1) := by decide +kernel
theorem dX10_readsToken_124 : decode cX10_readsToken 124 = .ok (.invokevirtual 159, 3) := by decide +kernel
theorem dX10_readsToken_127 : decode cX10_readsToken 127 = .ok (.aload_n 0, 1) := by decide +kernel
theorem dX10_readsToken_128 : decode cX10_readsToken 128 = .ok (.getfield 136, 3) := by decide +kernel
theorem dX10_readsToken_131 : decode cX10_readsToken 131 = .ok (.ifCond .le 5, 3) := by decide +kernel
theorem dX10_readsToken_134 : decode cX10_readsToken 134 = .ok (.iconst (-1), 1) := by decide +kernel
theorem dX10_readsToken_135 : decode cX10_readsToken 135 = .ok (.ireturn, 1) := by decide +kernel
theorem dX10_readsToken_136 : decode cX10_readsToken 136 = .ok (.aload_n 0, 1) := by decide +kernel
theorem dX10_readsToken_137 : decode cX10_readsToken 137 = .ok (.getfield 20, 3) := by decide +kernel
theorem dX10_readsToken_140 : decode cX10_readsToken 140 = .ok (.aload_n 0, 1) := by decide +kernel
theorem dX10_readsToken_141 : decode cX10_readsToken 141 = .ok (.getfield 170, 3) := by decide +kernel
theorem dX10_readsToken_144 : decode cX10_readsToken 144 = .ok (.iload_n 2, 1) := by decide +kernel
theorem dX10_readsToken_145 : decode cX10_readsToken 145 = .ok (.iastore, 1) := by decide +kernel
theorem dX10_readsToken_146 : decode cX10_readsToken 146 = .ok (.aload_n 0, 1) := by decide +kernel
theorem dX10_readsToken_147 : decode cX10_readsToken 147 = .ok (.getfield 23, 3) := by decide +kernel
theorem dX10_readsToken_150 : decode cX10_readsToken 150 = .ok (.aload_n 0, 1) := by decide +kernel
theorem dX10_readsToken_151 : decode cX10_readsToken 151 = .ok (.getfield 170, 3) := by decide +kernel
theorem dX10_readsToken_154 : decode cX10_readsToken 154 = .ok (.aload_n 0, 1) := by decide +kernel
theorem dX10_readsToken_155 : decode cX10_readsToken 155 = .ok (.getfield 149, 3) := by decide +kernel
theorem dX10_readsToken_158 : decode cX10_readsToken 158 = .ok (.iastore, 1) := by decide +kernel
theorem dX10_readsToken_159 : decode cX10_readsToken 159 = .ok (.aload_n 0, 1) := by decide +kernel
theorem dX10_readsToken_160 : decode cX10_readsToken 160 = .ok (.getfield 26, 3) := by decide +kernel
theorem dX10_readsToken_163 : decode cX10_readsToken 163 = .ok (.aload_n 0, 1) := by decide +kernel
theorem dX10_readsToken_164 : decode cX10_readsToken 164 = .ok (.getfield 170, 3) := by decide +kernel
theorem dX10_readsToken_167 : decode cX10_readsToken 167 = .ok (.aload_n 0, 1) := by decide +kernel
theorem dX10_readsToken_168 : decode cX10_readsToken 168 = .ok (.getfield 152, 3) := by decide +kernel
theorem dX10_readsToken_171 : decode cX10_readsToken 171 = .ok (.iastore, 1) := by decide +kernel
theorem dX10_readsToken_172 : decode cX10_readsToken 172 = .ok (.aload_n 0, 1) := by decide +kernel
theorem dX10_readsToken_173 : decode cX10_readsToken 173 = .ok (.dup, 1) := by decide +kernel
theorem dX10_readsToken_174 : decode cX10_readsToken 174 = .ok (.getfield 170, 3) := by decide +kernel
theorem dX10_readsToken_177 : decode cX10_readsToken 177 = .ok (.iconst 1, 1) := by decide +kernel
theorem dX10_readsToken_178 : decode cX10_readsToken 178 = .ok (.iadd, 1) := by decide +kernel
theorem dX10_readsToken_179 : decode cX10_readsToken 179 = .ok (.putfield 170, 3) := by decide +kernel
theorem dX10_readsToken_182 : decode cX10_readsToken 182 = .ok (.aload_n 0, 1) := by decide +kernel
theorem dX10_readsToken_183 : decode cX10_readsToken 183 = .ok (.getfield 170, 3) := by decide +kernel
theorem dX10_readsToken_186 : decode cX10_readsToken 186 = .ok (.iconst 1, 1) := by decide +kernel
theorem dX10_readsToken_187 : decode cX10_readsToken 187 = .ok (.isub, 1) := by decide +kernel
theorem dX10_readsToken_188 : decode cX10_readsToken 188 = .ok (.ireturn, 1) := by decide +kernel
/-- where a token's name begins, by its sort: 0 opens, 1 closes, 2 a word -/
def tkB (μ : va_M) (a s n : Int) : Prop := (sm (bA μ a) ∧ s = 2 ∧ n = a) ∨ (¬ sm (bA μ a) ∧ bA μ (a + 1) ≠ 47 ∧ s = 0 ∧ n = a + 1) ∨ (¬ sm (bA μ a) ∧ bA μ (a + 1) = 47 ∧ s = 1 ∧ n = a + 2)
/-- a whole token: its name of L letters, and what ends it -/
def tkOk (μ : va_M) (s n : Int) (L : Nat) : Prop := 1 ≤ L ∧ L ≤ 6 ∧ ¬ sm (bA μ (n + L)) ∧ (s < 2 → bA μ (n + L) = 62)
/-- the k-th unlike token is that one -/
def tkIs (μ : va_M) (s v : Int) (k : Nat) : Prop := μ 3 k = s ∧ μ 4 k = v
def okU (μ : va_M) : Prop := 0 ≤ μ 0 9 ∧ μ 0 9 ≤ 200 ∧ ∀ k : Nat, (k : Int) < μ 0 9 → inR (μ 3 k) ∧ inR (μ 4 k)
theorem fr_at {P : Nat → Nat → Prop} {μ u : va_M} (h : fr P μ u) {a b : Nat} (hp : ¬ P a b) : u a b = μ a b := h a b hp
theorem nmV_fr {P : Nat → Nat → Prop} {μ u : va_M} (h : fr P μ u) (h3 : ¬ P 0 3) (h2 : ∀ j, ¬ P 2 j) (a : Int) : ∀ L : Nat, nmV u a L = nmV μ a L
  | 0 => rfl
  | L + 1 => by rw [nmV, nmV, nmV_fr h h3 h2 a L, bA_fr h h3 h2]
set_option maxHeartbeats 4000000 in
set_option maxRecDepth 100000 in
theorem LX10_readsToken_72 {p : Program} {l : Launch} {e : Env} {R : Room} {s : State} {m : MethodId} {args : Array Value} {below : List Frame} {meth : Method} {c : Code} {cells slots : Nat} {Q : State → Prop} {dC : Nat → ClassId} {dI : Nat → Nat → Nat} {h0 : Nat} {cI cZ cII cIII : ClassId} (hx : p.tables.exec = Jvm.exec) (hb : c.code = cX10_readsToken) (hml : c.maxLocals = 4) (hown : s.vm.findClass RX10 = some m.cls) (hts : ∀ w ∈ wsG, w.before args s = true) (hK : va_K (dC, dI) vwCl (mT cI cZ cII cIII) s) (hRf : 3 ≤ R.frames) (hRl : 56 ≤ R.locals) (hRc : cells ≤ R.cells) (hRs : slots ≤ R.slots) (μ0 : va_M) (b : Int) (q2 : Int) (hU : okU μ0) (hs : inR q2) (hv : inR (μ0 0 27)) (hexit103 : ∀ (k : Int) (μ : va_M) (H : Heap) (locs : List Loc) (ls : Array Slot), (μ = μ0) → (0 ≤ k ∧ k < μ0 0 9) → (tkIs μ0 q2 (μ0 0 27) k.toNat) → (∀ j : Nat, (j : Int) < k → ¬ tkIs μ0 q2 (μ0 0 27) j) → va_P (dC, dI) vwCl (fw (mE cI cZ cII cIII h0) h0 6325 μ) H → va_S (fA h0 6325 s.heap.size) s.heap H locs → lv_has ls 4 [(3, .int (iZ (k))), (0, .ref h0), (1, .int (iZ (b))), (2, .int (iZ (q2)))] → W p l e R s m args below meth c H locs cells slots Q (F0 m 103 ls [])) (hexit111 : ∀ (k : Int) (μ : va_M) (H : Heap) (locs : List Loc) (ls : Array Slot), (μ = μ0) → (∀ j : Nat, (j : Int) < μ0 0 9 → ¬ tkIs μ0 q2 (μ0 0 27) j) → va_P (dC, dI) vwCl (fw (mE cI cZ cII cIII h0) h0 6325 μ) H → va_S (fA h0 6325 s.heap.size) s.heap H locs → lv_has ls 4 [(0, .ref h0), (1, .int (iZ (b))), (2, .int (iZ (q2)))] → W p l e R s m args below meth c H locs cells slots Q (F0 m 111 ls [])) :
    ∀ (n9 : Nat) (k : Int) (μ : va_M) (H : Heap) (locs : List Loc) (ls : Array Slot), (0 ≤ k ∧ k ≤ μ0 0 9) → (μ = μ0) → (∀ j : Nat, (j : Int) < k → ¬ tkIs μ0 q2 (μ0 0 27) j) → (201 - k).toNat < n9 → va_P (dC, dI) vwCl (fw (mE cI cZ cII cIII h0) h0 6325 μ) H → va_S (fA h0 6325 s.heap.size) s.heap H locs → lv_has ls 4 [(3, .int (iZ (k))), (0, .ref h0), (1, .int (iZ (b))), (2, .int (iZ (q2)))] → W p l e R s m args below meth c H locs cells slots Q (F0 m 72 ls []) := by
  intro n9
  induction n9 with
  | zero => intro k μ H locs ls hk hm hno hm9 hP hS hl; exact absurd hm9 (Nat.not_lt_zero _)
  | succ n9 ih =>
    intro k μ H locs ls hk hm hno hm9 hP hS hl
    subst hm
    obtain ⟨hU1, hU2, hU3⟩ := hU
    refine lv_iload_n hx hb dX10_readsToken_72 rfl (lv_at hl 0 rfl) ?_
    refine lv_aload_n hx hb dX10_readsToken_73 rfl (lv_at hl 1 rfl) ?_
    refine fz_get (D := (dC, dI)) (ci := 10) (v := .int (iZ (μ 0 9))) (C := RX10) (T := TX10) (N := 53) hx hb hts inG10 hown hK hP (k := 0) (by decide) (F := mF h0) mE_obj rfl 9 (by decide) (hts _ k1175) (fun _ h9 => h9) rfl dX10_readsToken_74 ?_
    refine fz_icmp_ge (tgt := 111) (by constructor <;> omega) (by constructor <;> omega) hx hb dX10_readsToken_77 (by decide) (fun c77_ => ?_) (fun c77_ => ?_)
    · exact hexit111 (k) μ H locs ls (by rfl) (by intro j hj; exact hno j (by omega)) hP hS (lv_sub hl [1, 2, 3] rfl)
    · have hu9 := hU3 k.toNat (by omega)
      refine lv_aload_n hx hb dX10_readsToken_80 rfl (lv_at hl 1 rfl) ?_
      refine fz_get (D := (dC, dI)) (ci := 10) (v := .ref (h0 + 3)) (C := RX10) (T := TX10) (N := 53) hx hb hts inG10 hown hK hP (k := 0) (by decide) (F := mF h0) mE_obj rfl 11 (by decide) (hts _ k1177) (fun _ h9 => h9) rfl dX10_readsToken_81 ?_
      refine lv_iload_n hx hb dX10_readsToken_84 rfl (lv_at hl 0 rfl) ?_
      refine fz_ld (k := 3) (n := 201) hx hb hK hP 0 (by decide) mE_tokenSort rfl ⟨by omega, by omega⟩ (by decide) dX10_readsToken_85 ?_
      refine lv_iload_n hx hb dX10_readsToken_86 rfl (lv_at hl 3 rfl) ?_
      refine fz_icmp_ne (tgt := 105) (by constructor <;> omega) (by constructor <;> omega) hx hb dX10_readsToken_87 (by decide) (fun c87_ => ?_) (fun c87_ => ?_)
      · refine lv_iinc (v := iZ (k + 1)) (lv' := [(3, .int (iZ (k + 1))), (0, .ref h0), (1, .int (iZ (b))), (2, .int (iZ (q2)))]) hx hb dX10_readsToken_105 hl (k := 0) rfl (iZ_add _ _) (by decide) rfl (fun ls hl => ?_)
        refine lv_goto (tgt := 72) hx hb dX10_readsToken_108 (by decide) ?_
        exact ih (k + 1) μ H locs ls (by omega) (by rfl) (by
                        intro j hj
                        by_cases h9 : (j : Int) < k
                        · exact hno j h9
                        · obtain rfl : j = k.toNat := by omega
                          unfold tkIs; omega) (by omega) hP hS (lv_sub hl [0, 1, 2, 3] rfl)
      · refine lv_aload_n hx hb dX10_readsToken_90 rfl (lv_at hl 1 rfl) ?_
        refine fz_get (D := (dC, dI)) (ci := 10) (v := .ref (h0 + 4)) (C := RX10) (T := TX10) (N := 53) hx hb hts inG10 hown hK hP (k := 0) (by decide) (F := mF h0) mE_obj rfl 12 (by decide) (hts _ k1178) (fun _ h9 => h9) rfl dX10_readsToken_91 ?_
        refine lv_iload_n hx hb dX10_readsToken_94 rfl (lv_at hl 0 rfl) ?_
        refine fz_ld (k := 4) (n := 201) hx hb hK hP 0 (by decide) mE_tokenLetters rfl ⟨by omega, by omega⟩ (by decide) dX10_readsToken_95 ?_
        refine lv_aload_n hx hb dX10_readsToken_96 rfl (lv_at hl 1 rfl) ?_
        refine fz_get (D := (dC, dI)) (ci := 10) (v := .int (iZ (μ 0 27))) (C := RX10) (T := TX10) (N := 53) hx hb hts inG10 hown hK hP (k := 0) (by decide) (F := mF h0) mE_obj rfl 27 (by decide) (hts _ k1193) (fun _ h9 => h9) rfl dX10_readsToken_97 ?_
        refine fz_icmp_ne (tgt := 105) (by constructor <;> omega) (by constructor <;> omega) hx hb dX10_readsToken_100 (by decide) (fun c100_ => ?_) (fun c100_ => ?_)
        · refine lv_iinc (v := iZ (k + 1)) (lv' := [(3, .int (iZ (k + 1))), (0, .ref h0), (1, .int (iZ (b))), (2, .int (iZ (q2)))]) hx hb dX10_readsToken_105 hl (k := 0) rfl (iZ_add _ _) (by decide) rfl (fun ls hl => ?_)
          refine lv_goto (tgt := 72) hx hb dX10_readsToken_108 (by decide) ?_
          exact ih (k + 1) μ H locs ls (by omega) (by rfl) (by
                            intro j hj
                            by_cases h9 : (j : Int) < k
                            · exact hno j h9
                            · obtain rfl : j = k.toNat := by omega
                              unfold tkIs; omega) (by omega) hP hS (lv_sub hl [0, 1, 2, 3] rfl)
        · exact hexit103 (k) μ H locs ls (by rfl) (by omega) (by exact ⟨by omega, by omega⟩) (by exact hno) hP hS (lv_sub hl [0, 1, 2, 3] rfl)
set_option maxHeartbeats 4000000 in
set_option maxRecDepth 100000 in
theorem m_readsToken (l : Launch) (dC : Nat → ClassId) (dI : Nat → Nat → Nat) (cI cZ cII cIII : ClassId) (h0 sz : Nat) (μ : va_M)  (hB : okB μ) (hU : okU μ) (h4 : 0 ≤ μ 0 4 ∧ μ 0 4 ≤ μ 0 3) (hf0 : μ 0 6 = 0) (hne : bA μ (μ 0 4) ≠ -1) : Met l yX10_readsToken (Cond.code yX10_readsToken cX10_readsToken 4 (some .int) :: wsG) ({ frames := 3, cells := 0, slots := 0, locals := 56 } : Room) (va_Pc [.ref h0] (fun U => U.heap.size = sz ∧ va_P (dC, dI) vwCl (fw (mE cI cZ cII cIII h0) h0 6325 μ) U.heap ∧ va_K (dC, dI) vwCl (mT cI cZ cII cIII) U)) (va_Qi (fun (r9 : Int32) (u : va_M × Int) => r9 = iZ u.2 ∧ (fun (u : va_M) (r : Int) => ∃ (q s : Int) (L : Nat), tkB μ (μ 0 4) q s ∧ (∀ i : Nat, i < L → sm (bA μ (s + i))) ∧ 0 ≤ u 0 4 ∧ u 0 4 ≤ μ 0 3 ∧ ((¬ tkOk μ q s L ∧ fr PN μ u ∧ u 0 6 = 1 ∧ r = -1) ∨ (tkOk μ q s L ∧ u 0 4 = s + L + (if q < 2 then 1 else 0) ∧ ((fr PN μ u ∧ u 0 6 = 0 ∧ 0 ≤ r ∧ r < μ 0 9 ∧ tkIs μ q (nmV μ s L) r.toNat ∧ ∀ j : Nat, (j : Int) < r → ¬ tkIs μ q (nmV μ s L) j) ∨ ((∀ j : Nat, (j : Int) < μ 0 9 → ¬ tkIs μ q (nmV μ s L) j) ∧ μ 0 9 = 200 ∧ fr PN μ u ∧ u 0 6 = 2 ∧ r = -1) ∨ ((∀ j : Nat, (j : Int) < μ 0 9 → ¬ tkIs μ q (nmV μ s L) j) ∧ μ 0 9 < 200 ∧ u 0 6 = 0 ∧ r = μ 0 9 ∧ u 0 9 = μ 0 9 + 1 ∧ u 3 r.toNat = q ∧ u 4 r.toNat = nmV μ s L ∧ u 5 r.toNat = L ∧ fr (fun x y => PN x y ∨ (x = 0 ∧ y = 9) ∨ ((x = 3 ∨ x = 4 ∨ x = 5) ∧ y = (μ 0 9).toNat)) μ u))))) u.1 u.2) (fun u t => va_P (dC, dI) vwCl (fw (mE cI cZ cII cIII h0) h0 6325 u.1) t.heap ∧ va_K (dC, dI) vwCl (mT cI cZ cII cIII) t) (fA h0 6325 sz)) 0 0 (fA h0 6325 sz) := by
  refine Met.ofW (cc := cX10_readsToken) (maxL := 4) (ret := (some .int)) (by decide) rfl ?_
  intro p e s m args below meth c s₁ B hml hv
  obtain ⟨rfl, hsz, hP, hK⟩ := hv
  have hx := B.exec
  have hb := B.bytes
  have hr := B.returns
  have hts : ∀ w ∈ wsG, w.before _ s = true := hG_of (atoms_spec (ws := (Cond.code yX10_readsToken cX10_readsToken 4 (some .int) :: wsG)) B.pre)
  have hown : s.vm.findClass RX10 = some m.cls := findClass_of_methodNamed B.named
  have hlocks := B.notSynchronized
  subst hsz
  have hS : va_S (fA h0 6325 s.heap.size) s.heap s.heap [] := va_S.rf
  have hl := lv_entry ([.ref h0]) (n := 4) (Nat.le_of_ble_eq_true rfl)
  rw [lg_entry_eq]
  generalize (lg_sl ([.ref h0]) ++ List.replicate (4 - (lg_sl ([.ref h0])).length) Slot.unset).toArray = ls at hl ⊢
  have hl : lv_has ls 4 [(0, .ref h0)] := hl
  have hend := bA_end hne
  have hU1_ := hU.1
  have hU2_ := hU.2.1
  refine lv_aload_n hx hb dX10_readsToken_0 rfl (lv_at hl 0 rfl) ?_
  refine fz_get (D := (dC, dI)) (ci := 10) (v := .int (iZ (μ 0 4))) (C := RX10) (T := TX10) (N := 53) hx hb hts inG10 hown hK hP (k := 0) (by decide) (F := mF h0) mE_obj rfl 4 (by decide) (hts _ k1170) (fun _ h9 => h9) rfl dX10_readsToken_1 ?_
  refine lv_istore_n (lv' := [(1, .int (iZ (μ 0 4))), (0, .ref h0)]) hx hb dX10_readsToken_4 rfl hl (by decide) rfl (fun ls hl => ?_)
  refine lv_aload_n hx hb dX10_readsToken_5 rfl (lv_at hl 1 rfl) ?_
  refine va_calli (va_runV (As := []) (rest := []) ⟨hx, hb, hml, hown, hts⟩ (m_readsSort l dC dI cI cZ cII cIII h0 s.heap.size μ  (by first | assumption | omega | exact ⟨by omega, by omega⟩) (by first | assumption | omega | exact ⟨by omega, by omega⟩) (by first | assumption | omega | exact ⟨by omega, by omega⟩)) (cwV 0 hts (gV_G k1361 k1363 ks_yX10_readsSort k13 k1364) rfl rfl rfl (by decide +kernel) ⟨Nat.le_of_ble_eq_true rfl, Nat.le_of_ble_eq_true rfl⟩) ⟨fun a U g mk q => by obtain ⟨q0, q1, qP, qK⟩ := q; exact ⟨q0, q1, qP, va_K.moved (u := U) (U := U.calling g mk a) (Vm.Alike.refl U.vm) qK⟩, va_recv hK hP (ci := 10) (q0 := 0) rfl ((fw_get (by decide)).trans (by rw [mE_obj]; rfl)), fun U hU hW => ⟨rfl, by rw [hU], by rw [hU]; exact hP, va_K.moved hW.alike hK⟩⟩ rfl rfl hl.1 rfl (lv_room (Nat.le_of_ble_eq_true rfl)) dX10_readsToken_6 ⟨Nat.le_of_ble_eq_true rfl, Nat.le_of_ble_eq_true rfl⟩) hS (fun q _ h => fA_le hS.1 q h) (fA_le hS.1) (fun r9 u9 t9 H1 locs ht9 hvm9 hw9 hB9 hz9 hk9 hS => ?_)
  obtain ⟨μa, rs⟩ := u9
  obtain ⟨hP, -⟩ := hB9
  rw [ht9] at hP
  generalize H1 = H at hP hS ⊢
  obtain ⟨e9, hw9⟩ := hw9
  have e9 : r9 = iZ rs := e9
  subst e9
  simp only at hP hw9
  have hμa := hw9; clear hw9
  obtain ⟨n0, htk, hat, vf1, hq2, hn0⟩ : ∃ n0, tkB μ (μ 0 4) rs n0 ∧ μa 0 4 = n0 ∧ fr PN μ μa ∧ (0 ≤ rs ∧ rs ≤ 2) ∧ (0 ≤ n0 ∧ n0 ≤ μ 0 3) := by
    rcases hμa with ⟨g1, g2, g3⟩ | ⟨g1, g2, g3, g4⟩ | ⟨g1, g2, g3, g4⟩
    · exact ⟨μ 0 4, Or.inl ⟨g1, g3, rfl⟩, by rw [g2], by rw [g2]; exact fr_rfl, by omega, by omega⟩
    · exact ⟨μ 0 4 + 1, Or.inr (Or.inl ⟨g1, g2, g4, rfl⟩), by rw [g3, uz_s], by rw [g3]; exact fr_uz fr_rfl (by simp [PN]), by omega, by omega⟩
    · exact ⟨μ 0 4 + 1 + 1, Or.inr (Or.inr ⟨g1, g2, g4, by omega⟩), by rw [g3, uz_s], by rw [g3]; exact fr_uz (fr_uz fr_rfl (by simp [PN])) (by simp [PN]), by omega, by have := bA_end (μ := μ) (k := μ 0 4 + 1) (by omega); omega⟩
  have hB9 : okB μa := okB_fr vf1 (by simp [PN]) (by simp [PN]) hB
  have e13 : μa 0 3 = μ 0 3 := vf1 0 3 (by simp [PN])
  have hf9 : μa 0 6 = 0 := by
    rcases hμa with ⟨g1, g2, g3⟩ | ⟨g1, g2, g3, g4⟩ | ⟨g1, g2, g3, g4⟩
    · rw [g2]; exact hf0
    · rw [g3, uz_n (by omega)]; exact hf0
    · rw [g3, uz_n (by omega), uz_n (by omega)]; exact hf0
  clear hμa
  refine lv_istore_n (lv' := [(2, .int (iZ (rs))), (1, .int (iZ (μ 0 4))), (0, .ref h0)]) hx hb dX10_readsToken_9 rfl hl (by decide) rfl (fun ls hl => ?_)
  refine lv_aload_n hx hb dX10_readsToken_10 rfl (lv_at hl 2 rfl) ?_
  refine va_callv (va_runV (As := []) (rest := []) ⟨hx, hb, hml, hown, hts⟩ (m_readsName l dC dI cI cZ cII cIII h0 H.size μa  (by first | assumption | omega | exact ⟨by omega, by omega⟩) (by first | assumption | omega | exact ⟨by omega, by omega⟩) (by first | assumption | omega | exact ⟨by omega, by omega⟩)) (cwV 0 hts (gV_G k1365 k1367 ks_yX10_readsName k13 k1368) rfl rfl rfl (by decide +kernel) ⟨Nat.le_of_ble_eq_true rfl, Nat.le_of_ble_eq_true rfl⟩) ⟨fun a U g mk q => by obtain ⟨q0, q1, qP, qK⟩ := q; exact ⟨q0, q1, qP, va_K.moved (u := U) (U := U.calling g mk a) (Vm.Alike.refl U.vm) qK⟩, va_recv hK hP (ci := 10) (q0 := 0) rfl ((fw_get (by decide)).trans (by rw [mE_obj]; rfl)), fun U hU hW => ⟨rfl, by rw [hU], by rw [hU]; exact hP, va_K.moved hW.alike hK⟩⟩ rfl rfl hl.1 rfl (lv_room (Nat.le_of_ble_eq_true rfl)) dX10_readsToken_11 ⟨Nat.le_of_ble_eq_true rfl, Nat.le_of_ble_eq_true rfl⟩) hS (fun q _ h => fA_le hS.1 q h) (fA_le hS.1) (fun u9 t9 H1 locs ht9 hvm9 hw9 hB9 hz9 hk9 hS => ?_)
  obtain ⟨hP, -⟩ := hB9
  rw [ht9] at hP
  generalize H1 = H at hP hS ⊢
  obtain ⟨μb, eμb⟩ : ∃ x : va_M, x = u9 := ⟨_, rfl⟩
  rw [← eμb] at hP hw9
  have hμb := hw9; clear hw9
  obtain ⟨L, vf2, h24, h24b, h27, h28, hsm, hor⟩ := hμb
  have hby : ∀ k, bA μa k = bA μ k := fun k => bA_fr vf1 (by simp [PN]) (by simp [PN])
  simp only [hby, nmV_fr vf1 (by simp [PN]) (by simp [PN]), hat] at h24 h27 hsm hor
  have v2 : fr PN μ μb := fr_trans vf1 vf2
  have e23 : μb 0 3 = μ 0 3 := v2 0 3 (by simp [PN])
  have e29 : μb 0 9 = μ 0 9 := v2 0 9 (by simp [PN])
  have hby2 : ∀ k, bA μb k = bA μ k := fun k => bA_fr v2 (by simp [PN]) (by simp [PN])
  have hB2_ := hB.2.1
  have hB1_ := hB.1
  refine lv_aload_n hx hb dX10_readsToken_14 rfl (lv_at hl 2 rfl) ?_
  refine fz_get (D := (dC, dI)) (ci := 10) (v := .int (iZ (μb 0 6))) (C := RX10) (T := TX10) (N := 53) hx hb hts inG10 hown hK hP (k := 0) (by decide) (F := mF h0) mE_obj rfl 6 (by decide) (hts _ k1172) (fun _ h9 => h9) rfl dX10_readsToken_15 ?_
  refine fz_if_ne (tgt := 61) (by constructor <;> omega) hx hb dX10_readsToken_18 (by decide) (fun c18_ => ?_) (fun c18_ => ?_)
  · refine lv_aload_n hx hb dX10_readsToken_61 rfl (lv_at hl 2 rfl) ?_
    refine fz_get (D := (dC, dI)) (ci := 10) (v := .int (iZ (μb 0 6))) (C := RX10) (T := TX10) (N := 53) hx hb hts inG10 hown hK hP (k := 0) (by decide) (F := mF h0) mE_obj rfl 6 (by decide) (hts _ k1172) (fun _ h9 => h9) rfl dX10_readsToken_62 ?_
    refine fz_if_le (tgt := 70) (by constructor <;> omega) hx hb dX10_readsToken_65 (by decide) (fun h9 => (by omega)) (fun c65_ => ?_)
    refine lv_iconst (v := iZ (-1)) hx hb dX10_readsToken_68 rfl ?_
    exact W.iret (v := iZ ((-1))) hx hb hr (fun t9 ht9 hW9 => ⟨⟨iZ ((-1)), (μb, (-1)), rfl, ⟨rfl, (by
                dsimp only
                first | (exact ⟨rs, n0, L, htk, hsm, by omega, by omega, Or.inl ⟨(fun h => by have h1 := h.1; have h2 := h.2.1; rcases hor with g | g <;> omega), v2, by omega, rfl⟩⟩) | (exact ⟨rs, n0, L, htk, hsm, by omega, by omega, Or.inl ⟨(fun h => by have h1 := h.2.2.2 (by omega); omega), wv, w6, rfl⟩⟩))⟩, by rw [ht9]; exact hP, va_K.moved hW9.alike hK⟩, hS.F ht9⟩) hS.2.2 dX10_readsToken_69
  · refine lv_iload_n hx hb dX10_readsToken_21 rfl (lv_at hl 0 rfl) ?_
    refine lv_iconst (v := iZ 2) hx hb dX10_readsToken_22 rfl ?_
    refine fz_icmp_ge (tgt := 61) (by constructor <;> omega) (by decide) hx hb dX10_readsToken_23 (by decide) (fun c23_ => ?_) (fun c23_ => ?_)
    · refine lv_aload_n hx hb dX10_readsToken_61 rfl (lv_at hl 2 rfl) ?_
      refine fz_get (D := (dC, dI)) (ci := 10) (v := .int (iZ (μb 0 6))) (C := RX10) (T := TX10) (N := 53) hx hb hts inG10 hown hK hP (k := 0) (by decide) (F := mF h0) mE_obj rfl 6 (by decide) (hts _ k1172) (fun _ h9 => h9) rfl dX10_readsToken_62 ?_
      refine fz_if_le (tgt := 70) (by constructor <;> omega) hx hb dX10_readsToken_65 (by decide) (fun c65_ => ?_) (fun h9 => (by omega))
      have t6 : μb 0 6 = 0 := by first | omega | (rw [rfl, uz_n (by omega)]; omega)
      have t4 : μb 0 4 = n0 + L + (if rs < 2 then 1 else 0) := by first | (rw [if_neg (by omega)]; omega) | (rw [if_pos (by omega), rfl, uz_s]; omega)
      have t27 : μb 0 27 = nmV μ n0 L := by first | exact h27 | (rw [rfl, uz_n (by omega)]; exact h27)
      have t28 : μb 0 28 = L := by first | exact h28 | (rw [rfl, uz_n (by omega)]; exact h28)
      have vt : fr PN μ μb := by first | exact v2 | (subst hx; exact fr_uz v2 (by simp [PN]))
      have tok : tkOk μ rs n0 L := by
        rcases hor with g | g
        · exact ⟨g.2.1, g.2.2.1, g.2.2.2, fun _ => by omega⟩
        · omega
      have tq9 : μb 0 9 = μ 0 9 := vt 0 9 (by simp [PN])
      have tle : μb 0 4 ≤ μ 0 3 := by first | omega | (have h8 := bA_end (μ := μ) (k := n0 + L) (by omega); rw [rfl, uz_s]; omega)
      have tU : okU μb := by
        obtain ⟨hU1, hU2, hU3⟩ := hU
        unfold okU
        rw [tq9]
        exact ⟨hU1, hU2, fun k hk => by rw [vt 3 k (by simp [PN]), vt 4 k (by simp [PN])]; exact hU3 k hk⟩
      have tI : ∀ k, tkIs μb rs (μb 0 27) k ↔ tkIs μ rs (nmV μ n0 L) k := fun k => by unfold tkIs; rw [vt 3 k (by simp [PN]), vt 4 k (by simp [PN]), t27]
      have tR : inR (μb 0 27) := by
        rw [t27]
        have hz := nmV_rng (μ := μ) (a := n0) L hsm
        have hz2 : (27 : Int) ^ L ≤ 27 ^ 6 := by exact_mod_cast Nat.pow_le_pow_right (show 0 < 27 by decide) tok.2.1
        have hz3 : (27 : Int) ^ 6 = 387420489 := by decide
        constructor <;> omega
      refine lv_iconst (v := iZ 0) hx hb dX10_readsToken_70 rfl ?_
      refine lv_istore_n (lv' := [(3, .int (iZ (0))), (2, .int (iZ (rs))), (1, .int (iZ (μ 0 4))), (0, .ref h0)]) hx hb dX10_readsToken_71 rfl hl (by decide) rfl (fun ls hl => ?_)
      refine LX10_readsToken_72 hx hb hml hown hts hK (Nat.le_of_ble_eq_true rfl) (Nat.le_of_ble_eq_true rfl) (Nat.le_of_ble_eq_true rfl) (Nat.le_of_ble_eq_true rfl) (μb) (μ 0 4) (rs) (by exact tU) (by constructor <;> omega) (by exact tR) ?_ ?_ _ (0) μb H locs ls (by omega) (by rfl) (by intro j hj; omega) (Nat.lt_succ_self _) hP hS (lv_sub hl [0, 3, 2, 1] rfl)
      · intro k_1 μ1_ H locs ls q3_1 q4_1 q5_1 q6_1 hP hS hl
        have hl : lv_has ls 4 [(3, .int (iZ (k_1))), (0, .ref h0), (1, .int (iZ ((μ 0 4)))), (2, .int (iZ (rs)))] := hl
        refine lv_iload_n hx hb dX10_readsToken_103 rfl (lv_at hl 0 rfl) ?_
        exact W.iret (v := iZ (k_1)) hx hb hr (fun t9 ht9 hW9 => ⟨⟨iZ (k_1), (μ1_, k_1), rfl, ⟨rfl, (by
                        dsimp only
                        rw [q3_1]
                        have q4 := q4_1
                        have q5 := q5_1
                        have q6 := q6_1
                        rw [tq9] at q4
                        rw [tI] at q5
                        exact ⟨rs, n0, L, htk, hsm, by rw [t4]; split <;> omega, tle, Or.inr ⟨tok, t4, Or.inl ⟨vt, t6, q4.1, q4.2, q5, fun j hj hq => q6 j hj ((tI j).mpr hq)⟩⟩⟩)⟩, by rw [ht9]; exact hP, va_K.moved hW9.alike hK⟩, hS.F ht9⟩) hS.2.2 dX10_readsToken_104
      · intro k_2 μ2_ H locs ls q1_2 q2__2 hP hS hl
        have hl : lv_has ls 4 [(0, .ref h0), (1, .int (iZ ((μ 0 4)))), (2, .int (iZ (rs)))] := hl
        have a9 : μ2_ 0 9 = μ 0 9 := by rw [q1_2]; exact tq9
        have a6 : μ2_ 0 6 = 0 := by rw [q1_2]; exact t6
        have a4 : μ2_ 0 4 = n0 + L + (if rs < 2 then 1 else 0) := by rw [q1_2]; exact t4
        have a27 : μ2_ 0 27 = nmV μ n0 L := by rw [q1_2]; exact t27
        have a28 : μ2_ 0 28 = L := by rw [q1_2]; exact t28
        have av : fr PN μ μ2_ := by rw [q1_2]; exact vt
        have ano : ∀ j : Nat, (j : Int) < μ 0 9 → ¬ tkIs μ rs (nmV μ n0 L) j := fun j hj hq => q2__2 j (by rw [tq9]; exact hj) ((tI j).mpr hq)
        obtain ⟨hU1, hU2, hU3⟩ := hU
        refine lv_aload_n hx hb dX10_readsToken_111 rfl (lv_at hl 0 rfl) ?_
        refine fz_get (D := (dC, dI)) (ci := 10) (v := .int (iZ (μ2_ 0 9))) (C := RX10) (T := TX10) (N := 53) hx hb hts inG10 hown hK hP (k := 0) (by decide) (F := mF h0) mE_obj rfl 9 (by decide) (hts _ k1175) (fun _ h9 => h9) rfl dX10_readsToken_112 ?_
        refine lv_sipush (v := iZ 200) hx hb dX10_readsToken_115 rfl ?_
        refine fz_icmp_ne (tgt := 127) (by constructor <;> omega) (by decide) hx hb dX10_readsToken_118 (by decide) (fun c118_ => ?_) (fun c118_ => ?_)
        · refine lv_aload_n hx hb dX10_readsToken_127 rfl (lv_at hl 0 rfl) ?_
          refine fz_get (D := (dC, dI)) (ci := 10) (v := .int (iZ (μ2_ 0 6))) (C := RX10) (T := TX10) (N := 53) hx hb hts inG10 hown hK hP (k := 0) (by decide) (F := mF h0) mE_obj rfl 6 (by decide) (hts _ k1172) (fun _ h9 => h9) rfl dX10_readsToken_128 ?_
          refine fz_if_le (tgt := 136) (by constructor <;> omega) hx hb dX10_readsToken_131 (by decide) (fun c131_ => ?_) (fun h9 => (by omega))
          refine lv_aload_n hx hb dX10_readsToken_136 rfl (lv_at hl 0 rfl) ?_
          refine fz_get (D := (dC, dI)) (ci := 10) (v := .ref (h0 + 3)) (C := RX10) (T := TX10) (N := 53) hx hb hts inG10 hown hK hP (k := 0) (by decide) (F := mF h0) mE_obj rfl 11 (by decide) (hts _ k1177) (fun _ h9 => h9) rfl dX10_readsToken_137 ?_
          refine lv_aload_n hx hb dX10_readsToken_140 rfl (lv_at hl 0 rfl) ?_
          refine fz_get (D := (dC, dI)) (ci := 10) (v := .int (iZ (μ2_ 0 9))) (C := RX10) (T := TX10) (N := 53) hx hb hts inG10 hown hK hP (k := 0) (by decide) (F := mF h0) mE_obj rfl 9 (by decide) (hts _ k1175) (fun _ h9 => h9) rfl dX10_readsToken_141 ?_
          refine lv_iload_n hx hb dX10_readsToken_144 rfl (lv_at hl 2 rfl) ?_
          refine fz_st (k := 3) (n := 201) (i := (μ2_ 0 9)) (z := rs) hx hb hK hP fA_in hS 0 (by decide) mE_tokenSort rfl ⟨by omega, by omega⟩ (by decide) dX10_readsToken_145 (fun H locs hP hS => ?_)
          obtain ⟨μ3, eμ3⟩ : ∃ x : va_M, x = uz μ2_ 3 (μ2_ 0 9).toNat (rs) := ⟨_, rfl⟩
          rw [← eμ3] at hP
          refine lv_aload_n hx hb dX10_readsToken_146 rfl (lv_at hl 0 rfl) ?_
          refine fz_get (D := (dC, dI)) (ci := 10) (v := .ref (h0 + 4)) (C := RX10) (T := TX10) (N := 53) hx hb hts inG10 hown hK hP (k := 0) (by decide) (F := mF h0) mE_obj rfl 12 (by decide) (hts _ k1178) (fun _ h9 => h9) rfl dX10_readsToken_147 ?_
          refine lv_aload_n hx hb dX10_readsToken_150 rfl (lv_at hl 0 rfl) ?_
          refine fz_get (D := (dC, dI)) (ci := 10) (v := .int (iZ (μ3 0 9))) (C := RX10) (T := TX10) (N := 53) hx hb hts inG10 hown hK hP (k := 0) (by decide) (F := mF h0) mE_obj rfl 9 (by decide) (hts _ k1175) (fun _ h9 => h9) rfl dX10_readsToken_151 ?_
          rw [show μ3 0 9 = μ2_ 0 9 from by rw [eμ3, uz_n (by omega)]]
          refine lv_aload_n hx hb dX10_readsToken_154 rfl (lv_at hl 0 rfl) ?_
          refine fz_get (D := (dC, dI)) (ci := 10) (v := .int (iZ (μ3 0 27))) (C := RX10) (T := TX10) (N := 53) hx hb hts inG10 hown hK hP (k := 0) (by decide) (F := mF h0) mE_obj rfl 27 (by decide) (hts _ k1193) (fun _ h9 => h9) rfl dX10_readsToken_155 ?_
          rw [show μ3 0 27 = μ2_ 0 27 from by rw [eμ3, uz_n (by omega)]]
          refine fz_st (k := 4) (n := 201) (i := (μ2_ 0 9)) (z := (μ2_ 0 27)) hx hb hK hP fA_in hS 0 (by decide) mE_tokenLetters rfl ⟨by omega, by omega⟩ (by decide) dX10_readsToken_158 (fun H locs hP hS => ?_)
          obtain ⟨μ4, eμ4⟩ : ∃ x : va_M, x = uz μ3 4 (μ2_ 0 9).toNat (μ2_ 0 27) := ⟨_, rfl⟩
          rw [← eμ4] at hP
          refine lv_aload_n hx hb dX10_readsToken_159 rfl (lv_at hl 0 rfl) ?_
          refine fz_get (D := (dC, dI)) (ci := 10) (v := .ref (h0 + 5)) (C := RX10) (T := TX10) (N := 53) hx hb hts inG10 hown hK hP (k := 0) (by decide) (F := mF h0) mE_obj rfl 13 (by decide) (hts _ k1179) (fun _ h9 => h9) rfl dX10_readsToken_160 ?_
          refine lv_aload_n hx hb dX10_readsToken_163 rfl (lv_at hl 0 rfl) ?_
          refine fz_get (D := (dC, dI)) (ci := 10) (v := .int (iZ (μ4 0 9))) (C := RX10) (T := TX10) (N := 53) hx hb hts inG10 hown hK hP (k := 0) (by decide) (F := mF h0) mE_obj rfl 9 (by decide) (hts _ k1175) (fun _ h9 => h9) rfl dX10_readsToken_164 ?_
          rw [show μ4 0 9 = μ2_ 0 9 from by rw [eμ4, uz_n (by omega), eμ3, uz_n (by omega)]]
          refine lv_aload_n hx hb dX10_readsToken_167 rfl (lv_at hl 0 rfl) ?_
          refine fz_get (D := (dC, dI)) (ci := 10) (v := .int (iZ (μ4 0 28))) (C := RX10) (T := TX10) (N := 53) hx hb hts inG10 hown hK hP (k := 0) (by decide) (F := mF h0) mE_obj rfl 28 (by decide) (hts _ k1194) (fun _ h9 => h9) rfl dX10_readsToken_168 ?_
          rw [show μ4 0 28 = μ2_ 0 28 from by rw [eμ4, uz_n (by omega), eμ3, uz_n (by omega)]]
          refine fz_st (k := 5) (n := 201) (i := (μ2_ 0 9)) (z := (μ2_ 0 28)) hx hb hK hP fA_in hS 0 (by decide) mE_tokenLong rfl ⟨by omega, by omega⟩ (by decide) dX10_readsToken_171 (fun H locs hP hS => ?_)
          obtain ⟨μ5, eμ5⟩ : ∃ x : va_M, x = uz μ4 5 (μ2_ 0 9).toNat (μ2_ 0 28) := ⟨_, rfl⟩
          rw [← eμ5] at hP
          refine lv_aload_n hx hb dX10_readsToken_172 rfl (lv_at hl 0 rfl) ?_
          refine lv_dup hx hb dX10_readsToken_173 rfl ?_
          refine fz_get (D := (dC, dI)) (ci := 10) (v := .int (iZ (μ5 0 9))) (C := RX10) (T := TX10) (N := 53) hx hb hts inG10 hown hK hP (k := 0) (by decide) (F := mF h0) mE_obj rfl 9 (by decide) (hts _ k1175) (fun _ h9 => h9) rfl dX10_readsToken_174 ?_
          rw [show μ5 0 9 = μ2_ 0 9 from by rw [eμ5, uz_n (by omega), eμ4, uz_n (by omega), eμ3, uz_n (by omega)]]
          refine lv_iconst (v := iZ 1) hx hb dX10_readsToken_177 rfl ?_
          refine lv_iadd hx hb dX10_readsToken_178 ?_
          refine lv_topi (fun x9 ex9 => ?_)
          obtain rfl : x9 = iZ ((μ2_ 0 9) + 1) := ex9.trans (iZ_add _ _)
          refine fz_put (D := (dC, dI)) (ci := 10) (ty := .int) (z := ((μ2_ 0 9) + 1)) (C := RX10) (T := TX10) (N := 53) hx hb hts inG10 tyX10 tyX10_ok nmX10 hown hK hP fA_in hS (k := 0) (by decide) (F := mF h0) mE_obj rfl 9 (by decide) (hts _ k1175) (fun _ h9 => h9) rfl (by decide +kernel) rfl rfl (fun _ => Nat.le_of_ble_eq_true rfl) (fun _ _ => rfl) dX10_readsToken_179 (fun H locs hP hS => ?_)
          obtain ⟨μ6, eμ6⟩ : ∃ x : va_M, x = uz μ5 0 9 ((μ2_ 0 9) + 1) := ⟨_, rfl⟩
          rw [← eμ6] at hP
          refine lv_aload_n hx hb dX10_readsToken_182 rfl (lv_at hl 0 rfl) ?_
          refine fz_get (D := (dC, dI)) (ci := 10) (v := .int (iZ (μ6 0 9))) (C := RX10) (T := TX10) (N := 53) hx hb hts inG10 hown hK hP (k := 0) (by decide) (F := mF h0) mE_obj rfl 9 (by decide) (hts _ k1175) (fun _ h9 => h9) rfl dX10_readsToken_183 ?_
          rw [show μ6 0 9 = (μ2_ 0 9) + 1 from by rw [eμ6, uz_s]]
          refine lv_iconst (v := iZ 1) hx hb dX10_readsToken_186 rfl ?_
          refine lv_isub hx hb dX10_readsToken_187 ?_
          refine lv_topi (fun x9 ex9 => ?_)
          obtain rfl : x9 = iZ (((μ2_ 0 9) + 1) - 1) := ex9.trans (iZ_sub _ _)
          exact W.iret (v := iZ (((μ2_ 0 9) + 1) - 1)) hx hb hr (fun t9 ht9 hW9 => ⟨⟨iZ (((μ2_ 0 9) + 1) - 1), (μ6, ((μ2_ 0 9) + 1) - 1), rfl, ⟨rfl, (by
                            dsimp only
                            refine ⟨rs, n0, L, htk, hsm, ?_, ?_, Or.inr ⟨tok, ?_, Or.inr (Or.inr ⟨ano, by omega, ?_, ?_, ?_, ?_, ?_, ?_, ?_⟩)⟩⟩
                            · rw [eμ6, eμ5, eμ4, eμ3, uz_n (by omega), uz_n (by omega), uz_n (by omega), uz_n (by omega), a4]; split <;> omega
                            · rw [eμ6, eμ5, eμ4, eμ3, uz_n (by omega), uz_n (by omega), uz_n (by omega), uz_n (by omega), a4, ← t4]; exact tle
                            · rw [eμ6, eμ5, eμ4, eμ3, uz_n (by omega), uz_n (by omega), uz_n (by omega), uz_n (by omega)]; exact a4
                            · rw [eμ6, eμ5, eμ4, eμ3, uz_n (by omega), uz_n (by omega), uz_n (by omega), uz_n (by omega)]; exact a6
                            · omega
                            · rw [eμ6, eμ5, eμ4, eμ3, uz_s]; omega
                            · rw [eμ6, eμ5, eμ4, eμ3, uz_n (by omega), uz_n (by omega), uz_n (by omega), show (μ2_ 0 9 + 1 - 1).toNat = (μ2_ 0 9).toNat by congr 1; omega, uz_s]
                            · rw [eμ6, eμ5, eμ4, eμ3, uz_n (by omega), uz_n (by omega), show (μ2_ 0 9 + 1 - 1).toNat = (μ2_ 0 9).toNat by congr 1; omega, uz_s]; exact a27
                            · rw [eμ6, eμ5, eμ4, eμ3, uz_n (by omega), show (μ2_ 0 9 + 1 - 1).toNat = (μ2_ 0 9).toNat by congr 1; omega, uz_s]; exact a28
                            · subst eμ6 eμ5 eμ4 eμ3
                              have av2 := fr_mono (P2 := fun x y => PN x y ∨ (x = 0 ∧ y = 9) ∨ ((x = 3 ∨ x = 4 ∨ x = 5) ∧ y = (μ 0 9).toNat)) av (fun x y h => Or.inl h)
                              rw [a9]
                              exact fr_uz (fr_uz (fr_uz (fr_uz av2 (by simp)) (by simp)) (by simp)) (by simp))⟩, by rw [ht9]; exact hP, va_K.moved hW9.alike hK⟩, hS.F ht9⟩) hS.2.2 dX10_readsToken_188
        · refine lv_aload_n hx hb dX10_readsToken_121 rfl (lv_at hl 0 rfl) ?_
          refine lv_iconst (v := iZ 2) hx hb dX10_readsToken_122 rfl ?_
          refine lv_iload_n hx hb dX10_readsToken_123 rfl (lv_at hl 1 rfl) ?_
          refine va_callv (va_runV (As := [.int (iZ (2)), .int (iZ ((μ 0 4)))]) (rest := []) ⟨hx, hb, hml, hown, hts⟩ (m_wrong l dC dI cI cZ cII cIII h0 H.size μ2_ (2) ((μ 0 4)) (by first | assumption | omega | exact ⟨by omega, by omega⟩)) (cwV 2 hts (gV_G k1353 k1355 ks_yX10_wrong k13 k1356) rfl rfl rfl (by decide +kernel) ⟨Nat.le_of_ble_eq_true rfl, Nat.le_of_ble_eq_true rfl⟩) ⟨fun a U g mk q => by obtain ⟨q0, q1, qP, qK⟩ := q; exact ⟨q0, q1, qP, va_K.moved (u := U) (U := U.calling g mk a) (Vm.Alike.refl U.vm) qK⟩, va_recv hK hP (ci := 10) (q0 := 0) rfl ((fw_get (by decide)).trans (by rw [mE_obj]; rfl)), fun U hU hW => ⟨rfl, by rw [hU], by rw [hU]; exact hP, va_K.moved hW.alike hK⟩⟩ rfl rfl hl.1 rfl (lv_room (Nat.le_of_ble_eq_true rfl)) dX10_readsToken_124 ⟨Nat.le_of_ble_eq_true rfl, Nat.le_of_ble_eq_true rfl⟩) hS (fun q _ h => fA_le hS.1 q h) (fA_le hS.1) (fun u9 t9 H1 locs ht9 hvm9 hw9 hB9 hz9 hk9 hS => ?_)
          obtain ⟨hP, -⟩ := hB9
          rw [ht9] at hP
          generalize H1 = H at hP hS ⊢
          obtain ⟨μ7, eμ7⟩ : ∃ x : va_M, x = u9 := ⟨_, rfl⟩
          rw [← eμ7] at hP hw9
          have hμ7 := hw9; clear hw9
          rw [if_pos (by omega)] at hμ7
          have w6 : μ7 0 6 = 2 := by rw [hμ7, uz_n (by omega), uz_s]
          have w4 : μ7 0 4 = n0 + L + (if rs < 2 then 1 else 0) := by rw [hμ7, uz_n (by omega), uz_n (by omega)]; exact a4
          have wv : fr PN μ μ7 := by rw [hμ7]; exact fr_uz (fr_uz av (by simp [PN])) (by simp [PN])
          refine lv_aload_n hx hb dX10_readsToken_127 rfl (lv_at hl 0 rfl) ?_
          refine fz_get (D := (dC, dI)) (ci := 10) (v := .int (iZ (μ7 0 6))) (C := RX10) (T := TX10) (N := 53) hx hb hts inG10 hown hK hP (k := 0) (by decide) (F := mF h0) mE_obj rfl 6 (by decide) (hts _ k1172) (fun _ h9 => h9) rfl dX10_readsToken_128 ?_
          refine fz_if_le (tgt := 136) (by constructor <;> omega) hx hb dX10_readsToken_131 (by decide) (fun h9 => (by omega)) (fun c131_ => ?_)
          refine lv_iconst (v := iZ (-1)) hx hb dX10_readsToken_134 rfl ?_
          exact W.iret (v := iZ ((-1))) hx hb hr (fun t9 ht9 hW9 => ⟨⟨iZ ((-1)), (μ7, (-1)), rfl, ⟨rfl, (by
                            dsimp only
                            exact ⟨rs, n0, L, htk, hsm, by rw [w4]; split <;> omega, by rw [w4, ← t4]; exact tle, Or.inr ⟨tok, w4, Or.inr (Or.inl ⟨ano, by omega, wv, w6, rfl⟩)⟩⟩)⟩, by rw [ht9]; exact hP, va_K.moved hW9.alike hK⟩, hS.F ht9⟩) hS.2.2 dX10_readsToken_135
    · refine lv_aload_n hx hb dX10_readsToken_26 rfl (lv_at hl 2 rfl) ?_
      refine lv_aload_n hx hb dX10_readsToken_27 rfl (lv_at hl 2 rfl) ?_
      refine fz_get (D := (dC, dI)) (ci := 10) (v := .int (iZ (μb 0 4))) (C := RX10) (T := TX10) (N := 53) hx hb hts inG10 hown hK hP (k := 0) (by decide) (F := mF h0) mE_obj rfl 4 (by decide) (hts _ k1170) (fun _ h9 => h9) rfl dX10_readsToken_28 ?_
      refine va_calli (va_runV (As := [.int (iZ (μb 0 4))]) (rest := []) ⟨hx, hb, hml, hown, hts⟩ (m_byteAt l dC dI cI cZ cII cIII h0 H.size μb (μb 0 4) (by first | assumption | omega | exact ⟨by omega, by omega⟩) (by first | assumption | omega | exact ⟨by omega, by omega⟩) (by first | assumption | omega | exact ⟨by omega, by omega⟩)) (cwV 1 hts (gV_G k1346 k1348 ks_yX10_byteAt k13 k1349) rfl rfl rfl (by decide +kernel) ⟨Nat.le_of_ble_eq_true rfl, Nat.le_of_ble_eq_true rfl⟩) ⟨fun a U g mk q => by obtain ⟨q0, q1, qP, qK⟩ := q; exact ⟨q0, q1, qP, va_K.moved (u := U) (U := U.calling g mk a) (Vm.Alike.refl U.vm) qK⟩, va_recv hK hP (ci := 10) (q0 := 0) rfl ((fw_get (by decide)).trans (by rw [mE_obj]; rfl)), fun U hU hW => ⟨rfl, by rw [hU], by rw [hU]; exact hP, va_K.moved hW.alike hK⟩⟩ rfl rfl hl.1 rfl (lv_room (Nat.le_of_ble_eq_true rfl)) dX10_readsToken_31 ⟨Nat.le_of_ble_eq_true rfl, Nat.le_of_ble_eq_true rfl⟩) hS (fun q _ h => fA_le hS.1 q h) (fA_le hS.1) (fun r9 u9 t9 H1 locs ht9 hvm9 hw9 hB9 hz9 hk9 hS => ?_)
      obtain ⟨μ8, rb⟩ := u9
      obtain ⟨hP, -⟩ := hB9
      rw [ht9] at hP
      generalize H1 = H at hP hS ⊢
      obtain ⟨e9, hw9⟩ := hw9
      have e9 : r9 = iZ rb := e9
      subst e9
      simp only at hP hw9
      have hμ8 := hw9; clear hw9
      rw [hμ8.1] at hP; have hμ8 := hμ8.2
      rw [hby2, h24] at hμ8
      have hr9 := bA_rng (μ := μ) (k := n0 + L) hB (by omega)
      refine lv_bipush (v := iZ 62) hx hb dX10_readsToken_34 rfl ?_
      refine fz_icmp_ne (tgt := 52) (by constructor <;> omega) (by decide) hx hb dX10_readsToken_36 (by decide) (fun c36_ => ?_) (fun c36_ => ?_)
      · refine lv_aload_n hx hb dX10_readsToken_52 rfl (lv_at hl 2 rfl) ?_
        refine lv_iconst (v := iZ 1) hx hb dX10_readsToken_53 rfl ?_
        refine lv_aload_n hx hb dX10_readsToken_54 rfl (lv_at hl 2 rfl) ?_
        refine fz_get (D := (dC, dI)) (ci := 10) (v := .int (iZ (μb 0 4))) (C := RX10) (T := TX10) (N := 53) hx hb hts inG10 hown hK hP (k := 0) (by decide) (F := mF h0) mE_obj rfl 4 (by decide) (hts _ k1170) (fun _ h9 => h9) rfl dX10_readsToken_55 ?_
        refine va_callv (va_runV (As := [.int (iZ (1)), .int (iZ (μb 0 4))]) (rest := []) ⟨hx, hb, hml, hown, hts⟩ (m_wrong l dC dI cI cZ cII cIII h0 H.size μb (1) (μb 0 4) (by first | assumption | omega | exact ⟨by omega, by omega⟩)) (cwV 2 hts (gV_G k1353 k1355 ks_yX10_wrong k13 k1356) rfl rfl rfl (by decide +kernel) ⟨Nat.le_of_ble_eq_true rfl, Nat.le_of_ble_eq_true rfl⟩) ⟨fun a U g mk q => by obtain ⟨q0, q1, qP, qK⟩ := q; exact ⟨q0, q1, qP, va_K.moved (u := U) (U := U.calling g mk a) (Vm.Alike.refl U.vm) qK⟩, va_recv hK hP (ci := 10) (q0 := 0) rfl ((fw_get (by decide)).trans (by rw [mE_obj]; rfl)), fun U hU hW => ⟨rfl, by rw [hU], by rw [hU]; exact hP, va_K.moved hW.alike hK⟩⟩ rfl rfl hl.1 rfl (lv_room (Nat.le_of_ble_eq_true rfl)) dX10_readsToken_58 ⟨Nat.le_of_ble_eq_true rfl, Nat.le_of_ble_eq_true rfl⟩) hS (fun q _ h => fA_le hS.1 q h) (fA_le hS.1) (fun u9 t9 H1 locs ht9 hvm9 hw9 hB9 hz9 hk9 hS => ?_)
        obtain ⟨hP, -⟩ := hB9
        rw [ht9] at hP
        generalize H1 = H at hP hS ⊢
        obtain ⟨μ9, eμ9⟩ : ∃ x : va_M, x = u9 := ⟨_, rfl⟩
        rw [← eμ9] at hP hw9
        have hμ9 := hw9; clear hw9
        rw [if_pos (by omega)] at hμ9
        have w6 : μ9 0 6 = 1 := by rw [hμ9, uz_n (by omega), uz_s]
        have w4 : μ9 0 4 = μb 0 4 := by rw [hμ9, uz_n (by omega), uz_n (by omega)]
        have wv : fr PN μ μ9 := by rw [hμ9]; exact fr_uz (fr_uz v2 (by simp [PN])) (by simp [PN])
        refine lv_aload_n hx hb dX10_readsToken_61 rfl (lv_at hl 2 rfl) ?_
        refine fz_get (D := (dC, dI)) (ci := 10) (v := .int (iZ (μ9 0 6))) (C := RX10) (T := TX10) (N := 53) hx hb hts inG10 hown hK hP (k := 0) (by decide) (F := mF h0) mE_obj rfl 6 (by decide) (hts _ k1172) (fun _ h9 => h9) rfl dX10_readsToken_62 ?_
        refine fz_if_le (tgt := 70) (by constructor <;> omega) hx hb dX10_readsToken_65 (by decide) (fun h9 => (by omega)) (fun c65_ => ?_)
        refine lv_iconst (v := iZ (-1)) hx hb dX10_readsToken_68 rfl ?_
        exact W.iret (v := iZ ((-1))) hx hb hr (fun t9 ht9 hW9 => ⟨⟨iZ ((-1)), (μ9, (-1)), rfl, ⟨rfl, (by
                        dsimp only
                        first | (exact ⟨rs, n0, L, htk, hsm, by omega, by omega, Or.inl ⟨(fun h => by have h1 := h.1; have h2 := h.2.1; rcases hor with g | g <;> omega), v2, by omega, rfl⟩⟩) | (exact ⟨rs, n0, L, htk, hsm, by omega, by omega, Or.inl ⟨(fun h => by have h1 := h.2.2.2 (by omega); omega), wv, w6, rfl⟩⟩))⟩, by rw [ht9]; exact hP, va_K.moved hW9.alike hK⟩, hS.F ht9⟩) hS.2.2 dX10_readsToken_69
      · refine lv_aload_n hx hb dX10_readsToken_39 rfl (lv_at hl 2 rfl) ?_
        refine lv_dup hx hb dX10_readsToken_40 rfl ?_
        refine fz_get (D := (dC, dI)) (ci := 10) (v := .int (iZ (μb 0 4))) (C := RX10) (T := TX10) (N := 53) hx hb hts inG10 hown hK hP (k := 0) (by decide) (F := mF h0) mE_obj rfl 4 (by decide) (hts _ k1170) (fun _ h9 => h9) rfl dX10_readsToken_41 ?_
        refine lv_iconst (v := iZ 1) hx hb dX10_readsToken_44 rfl ?_
        refine lv_iadd hx hb dX10_readsToken_45 ?_
        refine lv_topi (fun x9 ex9 => ?_)
        obtain rfl : x9 = iZ ((μb 0 4) + 1) := ex9.trans (iZ_add _ _)
        refine fz_put (D := (dC, dI)) (ci := 10) (ty := .int) (z := ((μb 0 4) + 1)) (C := RX10) (T := TX10) (N := 53) hx hb hts inG10 tyX10 tyX10_ok nmX10 hown hK hP fA_in hS (k := 0) (by decide) (F := mF h0) mE_obj rfl 4 (by decide) (hts _ k1170) (fun _ h9 => h9) rfl (by decide +kernel) rfl rfl (fun _ => Nat.le_of_ble_eq_true rfl) (fun _ _ => rfl) dX10_readsToken_46 (fun H locs hP hS => ?_)
        obtain ⟨μ10, eμ10⟩ : ∃ x : va_M, x = uz μb 0 4 ((μb 0 4) + 1) := ⟨_, rfl⟩
        rw [← eμ10] at hP
        refine lv_goto (tgt := 61) hx hb dX10_readsToken_49 (by decide) ?_
        refine lv_aload_n hx hb dX10_readsToken_61 rfl (lv_at hl 2 rfl) ?_
        refine fz_get (D := (dC, dI)) (ci := 10) (v := .int (iZ (μ10 0 6))) (C := RX10) (T := TX10) (N := 53) hx hb hts inG10 hown hK hP (k := 0) (by decide) (F := mF h0) mE_obj rfl 6 (by decide) (hts _ k1172) (fun _ h9 => h9) rfl dX10_readsToken_62 ?_
        rw [show μ10 0 6 = μb 0 6 from by rw [eμ10, uz_n (by omega)]]
        refine fz_if_le (tgt := 70) (by constructor <;> omega) hx hb dX10_readsToken_65 (by decide) (fun c65_ => ?_) (fun h9 => (by omega))
        have t6 : μ10 0 6 = 0 := by first | omega | (rw [eμ10, uz_n (by omega)]; omega)
        have t4 : μ10 0 4 = n0 + L + (if rs < 2 then 1 else 0) := by first | (rw [if_neg (by omega)]; omega) | (rw [if_pos (by omega), eμ10, uz_s]; omega)
        have t27 : μ10 0 27 = nmV μ n0 L := by first | exact h27 | (rw [eμ10, uz_n (by omega)]; exact h27)
        have t28 : μ10 0 28 = L := by first | exact h28 | (rw [eμ10, uz_n (by omega)]; exact h28)
        have vt : fr PN μ μ10 := by first | exact v2 | (subst eμ10; exact fr_uz v2 (by simp [PN]))
        have tok : tkOk μ rs n0 L := by
          rcases hor with g | g
          · exact ⟨g.2.1, g.2.2.1, g.2.2.2, fun _ => by omega⟩
          · omega
        have tq9 : μ10 0 9 = μ 0 9 := vt 0 9 (by simp [PN])
        have tle : μ10 0 4 ≤ μ 0 3 := by first | omega | (have h8 := bA_end (μ := μ) (k := n0 + L) (by omega); rw [eμ10, uz_s]; omega)
        have tU : okU μ10 := by
          obtain ⟨hU1, hU2, hU3⟩ := hU
          unfold okU
          rw [tq9]
          exact ⟨hU1, hU2, fun k hk => by rw [vt 3 k (by simp [PN]), vt 4 k (by simp [PN])]; exact hU3 k hk⟩
        have tI : ∀ k, tkIs μ10 rs (μ10 0 27) k ↔ tkIs μ rs (nmV μ n0 L) k := fun k => by unfold tkIs; rw [vt 3 k (by simp [PN]), vt 4 k (by simp [PN]), t27]
        have tR : inR (μ10 0 27) := by
          rw [t27]
          have hz := nmV_rng (μ := μ) (a := n0) L hsm
          have hz2 : (27 : Int) ^ L ≤ 27 ^ 6 := by exact_mod_cast Nat.pow_le_pow_right (show 0 < 27 by decide) tok.2.1
          have hz3 : (27 : Int) ^ 6 = 387420489 := by decide
          constructor <;> omega
        refine lv_iconst (v := iZ 0) hx hb dX10_readsToken_70 rfl ?_
        refine lv_istore_n (lv' := [(3, .int (iZ (0))), (2, .int (iZ (rs))), (1, .int (iZ (μ 0 4))), (0, .ref h0)]) hx hb dX10_readsToken_71 rfl hl (by decide) rfl (fun ls hl => ?_)
        refine LX10_readsToken_72 hx hb hml hown hts hK (Nat.le_of_ble_eq_true rfl) (Nat.le_of_ble_eq_true rfl) (Nat.le_of_ble_eq_true rfl) (Nat.le_of_ble_eq_true rfl) (μ10) (μ 0 4) (rs) (by exact tU) (by constructor <;> omega) (by exact tR) ?_ ?_ _ (0) μ10 H locs ls (by omega) (by rfl) (by intro j hj; omega) (Nat.lt_succ_self _) hP hS (lv_sub hl [0, 3, 2, 1] rfl)
        · intro k_11 μ11_ H locs ls q3_11 q4_11 q5_11 q6_11 hP hS hl
          have hl : lv_has ls 4 [(3, .int (iZ (k_11))), (0, .ref h0), (1, .int (iZ ((μ 0 4)))), (2, .int (iZ (rs)))] := hl
          refine lv_iload_n hx hb dX10_readsToken_103 rfl (lv_at hl 0 rfl) ?_
          exact W.iret (v := iZ (k_11)) hx hb hr (fun t9 ht9 hW9 => ⟨⟨iZ (k_11), (μ11_, k_11), rfl, ⟨rfl, (by
                            dsimp only
                            rw [q3_11]
                            have q4 := q4_11
                            have q5 := q5_11
                            have q6 := q6_11
                            rw [tq9] at q4
                            rw [tI] at q5
                            exact ⟨rs, n0, L, htk, hsm, by rw [t4]; split <;> omega, tle, Or.inr ⟨tok, t4, Or.inl ⟨vt, t6, q4.1, q4.2, q5, fun j hj hq => q6 j hj ((tI j).mpr hq)⟩⟩⟩)⟩, by rw [ht9]; exact hP, va_K.moved hW9.alike hK⟩, hS.F ht9⟩) hS.2.2 dX10_readsToken_104
        · intro k_12 μ12_ H locs ls q1_12 q2__12 hP hS hl
          have hl : lv_has ls 4 [(0, .ref h0), (1, .int (iZ ((μ 0 4)))), (2, .int (iZ (rs)))] := hl
          have a9 : μ12_ 0 9 = μ 0 9 := by rw [q1_12]; exact tq9
          have a6 : μ12_ 0 6 = 0 := by rw [q1_12]; exact t6
          have a4 : μ12_ 0 4 = n0 + L + (if rs < 2 then 1 else 0) := by rw [q1_12]; exact t4
          have a27 : μ12_ 0 27 = nmV μ n0 L := by rw [q1_12]; exact t27
          have a28 : μ12_ 0 28 = L := by rw [q1_12]; exact t28
          have av : fr PN μ μ12_ := by rw [q1_12]; exact vt
          have ano : ∀ j : Nat, (j : Int) < μ 0 9 → ¬ tkIs μ rs (nmV μ n0 L) j := fun j hj hq => q2__12 j (by rw [tq9]; exact hj) ((tI j).mpr hq)
          obtain ⟨hU1, hU2, hU3⟩ := hU
          refine lv_aload_n hx hb dX10_readsToken_111 rfl (lv_at hl 0 rfl) ?_
          refine fz_get (D := (dC, dI)) (ci := 10) (v := .int (iZ (μ12_ 0 9))) (C := RX10) (T := TX10) (N := 53) hx hb hts inG10 hown hK hP (k := 0) (by decide) (F := mF h0) mE_obj rfl 9 (by decide) (hts _ k1175) (fun _ h9 => h9) rfl dX10_readsToken_112 ?_
          refine lv_sipush (v := iZ 200) hx hb dX10_readsToken_115 rfl ?_
          refine fz_icmp_ne (tgt := 127) (by constructor <;> omega) (by decide) hx hb dX10_readsToken_118 (by decide) (fun c118_ => ?_) (fun c118_ => ?_)
          · refine lv_aload_n hx hb dX10_readsToken_127 rfl (lv_at hl 0 rfl) ?_
            refine fz_get (D := (dC, dI)) (ci := 10) (v := .int (iZ (μ12_ 0 6))) (C := RX10) (T := TX10) (N := 53) hx hb hts inG10 hown hK hP (k := 0) (by decide) (F := mF h0) mE_obj rfl 6 (by decide) (hts _ k1172) (fun _ h9 => h9) rfl dX10_readsToken_128 ?_
            refine fz_if_le (tgt := 136) (by constructor <;> omega) hx hb dX10_readsToken_131 (by decide) (fun c131_ => ?_) (fun h9 => (by omega))
            refine lv_aload_n hx hb dX10_readsToken_136 rfl (lv_at hl 0 rfl) ?_
            refine fz_get (D := (dC, dI)) (ci := 10) (v := .ref (h0 + 3)) (C := RX10) (T := TX10) (N := 53) hx hb hts inG10 hown hK hP (k := 0) (by decide) (F := mF h0) mE_obj rfl 11 (by decide) (hts _ k1177) (fun _ h9 => h9) rfl dX10_readsToken_137 ?_
            refine lv_aload_n hx hb dX10_readsToken_140 rfl (lv_at hl 0 rfl) ?_
            refine fz_get (D := (dC, dI)) (ci := 10) (v := .int (iZ (μ12_ 0 9))) (C := RX10) (T := TX10) (N := 53) hx hb hts inG10 hown hK hP (k := 0) (by decide) (F := mF h0) mE_obj rfl 9 (by decide) (hts _ k1175) (fun _ h9 => h9) rfl dX10_readsToken_141 ?_
            refine lv_iload_n hx hb dX10_readsToken_144 rfl (lv_at hl 2 rfl) ?_
            refine fz_st (k := 3) (n := 201) (i := (μ12_ 0 9)) (z := rs) hx hb hK hP fA_in hS 0 (by decide) mE_tokenSort rfl ⟨by omega, by omega⟩ (by decide) dX10_readsToken_145 (fun H locs hP hS => ?_)
            obtain ⟨μ13, eμ13⟩ : ∃ x : va_M, x = uz μ12_ 3 (μ12_ 0 9).toNat (rs) := ⟨_, rfl⟩
            rw [← eμ13] at hP
            refine lv_aload_n hx hb dX10_readsToken_146 rfl (lv_at hl 0 rfl) ?_
            refine fz_get (D := (dC, dI)) (ci := 10) (v := .ref (h0 + 4)) (C := RX10) (T := TX10) (N := 53) hx hb hts inG10 hown hK hP (k := 0) (by decide) (F := mF h0) mE_obj rfl 12 (by decide) (hts _ k1178) (fun _ h9 => h9) rfl dX10_readsToken_147 ?_
            refine lv_aload_n hx hb dX10_readsToken_150 rfl (lv_at hl 0 rfl) ?_
            refine fz_get (D := (dC, dI)) (ci := 10) (v := .int (iZ (μ13 0 9))) (C := RX10) (T := TX10) (N := 53) hx hb hts inG10 hown hK hP (k := 0) (by decide) (F := mF h0) mE_obj rfl 9 (by decide) (hts _ k1175) (fun _ h9 => h9) rfl dX10_readsToken_151 ?_
            rw [show μ13 0 9 = μ12_ 0 9 from by rw [eμ13, uz_n (by omega)]]
            refine lv_aload_n hx hb dX10_readsToken_154 rfl (lv_at hl 0 rfl) ?_
            refine fz_get (D := (dC, dI)) (ci := 10) (v := .int (iZ (μ13 0 27))) (C := RX10) (T := TX10) (N := 53) hx hb hts inG10 hown hK hP (k := 0) (by decide) (F := mF h0) mE_obj rfl 27 (by decide) (hts _ k1193) (fun _ h9 => h9) rfl dX10_readsToken_155 ?_
            rw [show μ13 0 27 = μ12_ 0 27 from by rw [eμ13, uz_n (by omega)]]
            refine fz_st (k := 4) (n := 201) (i := (μ12_ 0 9)) (z := (μ12_ 0 27)) hx hb hK hP fA_in hS 0 (by decide) mE_tokenLetters rfl ⟨by omega, by omega⟩ (by decide) dX10_readsToken_158 (fun H locs hP hS => ?_)
            obtain ⟨μ14, eμ14⟩ : ∃ x : va_M, x = uz μ13 4 (μ12_ 0 9).toNat (μ12_ 0 27) := ⟨_, rfl⟩
            rw [← eμ14] at hP
            refine lv_aload_n hx hb dX10_readsToken_159 rfl (lv_at hl 0 rfl) ?_
            refine fz_get (D := (dC, dI)) (ci := 10) (v := .ref (h0 + 5)) (C := RX10) (T := TX10) (N := 53) hx hb hts inG10 hown hK hP (k := 0) (by decide) (F := mF h0) mE_obj rfl 13 (by decide) (hts _ k1179) (fun _ h9 => h9) rfl dX10_readsToken_160 ?_
            refine lv_aload_n hx hb dX10_readsToken_163 rfl (lv_at hl 0 rfl) ?_
            refine fz_get (D := (dC, dI)) (ci := 10) (v := .int (iZ (μ14 0 9))) (C := RX10) (T := TX10) (N := 53) hx hb hts inG10 hown hK hP (k := 0) (by decide) (F := mF h0) mE_obj rfl 9 (by decide) (hts _ k1175) (fun _ h9 => h9) rfl dX10_readsToken_164 ?_
            rw [show μ14 0 9 = μ12_ 0 9 from by rw [eμ14, uz_n (by omega), eμ13, uz_n (by omega)]]
            refine lv_aload_n hx hb dX10_readsToken_167 rfl (lv_at hl 0 rfl) ?_
            refine fz_get (D := (dC, dI)) (ci := 10) (v := .int (iZ (μ14 0 28))) (C := RX10) (T := TX10) (N := 53) hx hb hts inG10 hown hK hP (k := 0) (by decide) (F := mF h0) mE_obj rfl 28 (by decide) (hts _ k1194) (fun _ h9 => h9) rfl dX10_readsToken_168 ?_
            rw [show μ14 0 28 = μ12_ 0 28 from by rw [eμ14, uz_n (by omega), eμ13, uz_n (by omega)]]
            refine fz_st (k := 5) (n := 201) (i := (μ12_ 0 9)) (z := (μ12_ 0 28)) hx hb hK hP fA_in hS 0 (by decide) mE_tokenLong rfl ⟨by omega, by omega⟩ (by decide) dX10_readsToken_171 (fun H locs hP hS => ?_)
            obtain ⟨μ15, eμ15⟩ : ∃ x : va_M, x = uz μ14 5 (μ12_ 0 9).toNat (μ12_ 0 28) := ⟨_, rfl⟩
            rw [← eμ15] at hP
            refine lv_aload_n hx hb dX10_readsToken_172 rfl (lv_at hl 0 rfl) ?_
            refine lv_dup hx hb dX10_readsToken_173 rfl ?_
            refine fz_get (D := (dC, dI)) (ci := 10) (v := .int (iZ (μ15 0 9))) (C := RX10) (T := TX10) (N := 53) hx hb hts inG10 hown hK hP (k := 0) (by decide) (F := mF h0) mE_obj rfl 9 (by decide) (hts _ k1175) (fun _ h9 => h9) rfl dX10_readsToken_174 ?_
            rw [show μ15 0 9 = μ12_ 0 9 from by rw [eμ15, uz_n (by omega), eμ14, uz_n (by omega), eμ13, uz_n (by omega)]]
            refine lv_iconst (v := iZ 1) hx hb dX10_readsToken_177 rfl ?_
            refine lv_iadd hx hb dX10_readsToken_178 ?_
            refine lv_topi (fun x9 ex9 => ?_)
            obtain rfl : x9 = iZ ((μ12_ 0 9) + 1) := ex9.trans (iZ_add _ _)
            refine fz_put (D := (dC, dI)) (ci := 10) (ty := .int) (z := ((μ12_ 0 9) + 1)) (C := RX10) (T := TX10) (N := 53) hx hb hts inG10 tyX10 tyX10_ok nmX10 hown hK hP fA_in hS (k := 0) (by decide) (F := mF h0) mE_obj rfl 9 (by decide) (hts _ k1175) (fun _ h9 => h9) rfl (by decide +kernel) rfl rfl (fun _ => Nat.le_of_ble_eq_true rfl) (fun _ _ => rfl) dX10_readsToken_179 (fun H locs hP hS => ?_)
            obtain ⟨μ16, eμ16⟩ : ∃ x : va_M, x = uz μ15 0 9 ((μ12_ 0 9) + 1) := ⟨_, rfl⟩
            rw [← eμ16] at hP
            refine lv_aload_n hx hb dX10_readsToken_182 rfl (lv_at hl 0 rfl) ?_
            refine fz_get (D := (dC, dI)) (ci := 10) (v := .int (iZ (μ16 0 9))) (C := RX10) (T := TX10) (N := 53) hx hb hts inG10 hown hK hP (k := 0) (by decide) (F := mF h0) mE_obj rfl 9 (by decide) (hts _ k1175) (fun _ h9 => h9) rfl dX10_readsToken_183 ?_
            rw [show μ16 0 9 = (μ12_ 0 9) + 1 from by rw [eμ16, uz_s]]
            refine lv_iconst (v := iZ 1) hx hb dX10_readsToken_186 rfl ?_
            refine lv_isub hx hb dX10_readsToken_187 ?_
            refine lv_topi (fun x9 ex9 => ?_)
            obtain rfl : x9 = iZ (((μ12_ 0 9) + 1) - 1) := ex9.trans (iZ_sub _ _)
            exact W.iret (v := iZ (((μ12_ 0 9) + 1) - 1)) hx hb hr (fun t9 ht9 hW9 => ⟨⟨iZ (((μ12_ 0 9) + 1) - 1), (μ16, ((μ12_ 0 9) + 1) - 1), rfl, ⟨rfl, (by
                                dsimp only
                                refine ⟨rs, n0, L, htk, hsm, ?_, ?_, Or.inr ⟨tok, ?_, Or.inr (Or.inr ⟨ano, by omega, ?_, ?_, ?_, ?_, ?_, ?_, ?_⟩)⟩⟩
                                · rw [eμ16, eμ15, eμ14, eμ13, uz_n (by omega), uz_n (by omega), uz_n (by omega), uz_n (by omega), a4]; split <;> omega
                                · rw [eμ16, eμ15, eμ14, eμ13, uz_n (by omega), uz_n (by omega), uz_n (by omega), uz_n (by omega), a4, ← t4]; exact tle
                                · rw [eμ16, eμ15, eμ14, eμ13, uz_n (by omega), uz_n (by omega), uz_n (by omega), uz_n (by omega)]; exact a4
                                · rw [eμ16, eμ15, eμ14, eμ13, uz_n (by omega), uz_n (by omega), uz_n (by omega), uz_n (by omega)]; exact a6
                                · omega
                                · rw [eμ16, eμ15, eμ14, eμ13, uz_s]; omega
                                · rw [eμ16, eμ15, eμ14, eμ13, uz_n (by omega), uz_n (by omega), uz_n (by omega), show (μ12_ 0 9 + 1 - 1).toNat = (μ12_ 0 9).toNat by congr 1; omega, uz_s]
                                · rw [eμ16, eμ15, eμ14, eμ13, uz_n (by omega), uz_n (by omega), show (μ12_ 0 9 + 1 - 1).toNat = (μ12_ 0 9).toNat by congr 1; omega, uz_s]; exact a27
                                · rw [eμ16, eμ15, eμ14, eμ13, uz_n (by omega), show (μ12_ 0 9 + 1 - 1).toNat = (μ12_ 0 9).toNat by congr 1; omega, uz_s]; exact a28
                                · subst eμ16 eμ15 eμ14 eμ13
                                  have av2 := fr_mono (P2 := fun x y => PN x y ∨ (x = 0 ∧ y = 9) ∨ ((x = 3 ∨ x = 4 ∨ x = 5) ∧ y = (μ 0 9).toNat)) av (fun x y h => Or.inl h)
                                  rw [a9]
                                  exact fr_uz (fr_uz (fr_uz (fr_uz av2 (by simp)) (by simp)) (by simp)) (by simp))⟩, by rw [ht9]; exact hP, va_K.moved hW9.alike hK⟩, hS.F ht9⟩) hS.2.2 dX10_readsToken_188
          · refine lv_aload_n hx hb dX10_readsToken_121 rfl (lv_at hl 0 rfl) ?_
            refine lv_iconst (v := iZ 2) hx hb dX10_readsToken_122 rfl ?_
            refine lv_iload_n hx hb dX10_readsToken_123 rfl (lv_at hl 1 rfl) ?_
            refine va_callv (va_runV (As := [.int (iZ (2)), .int (iZ ((μ 0 4)))]) (rest := []) ⟨hx, hb, hml, hown, hts⟩ (m_wrong l dC dI cI cZ cII cIII h0 H.size μ12_ (2) ((μ 0 4)) (by first | assumption | omega | exact ⟨by omega, by omega⟩)) (cwV 2 hts (gV_G k1353 k1355 ks_yX10_wrong k13 k1356) rfl rfl rfl (by decide +kernel) ⟨Nat.le_of_ble_eq_true rfl, Nat.le_of_ble_eq_true rfl⟩) ⟨fun a U g mk q => by obtain ⟨q0, q1, qP, qK⟩ := q; exact ⟨q0, q1, qP, va_K.moved (u := U) (U := U.calling g mk a) (Vm.Alike.refl U.vm) qK⟩, va_recv hK hP (ci := 10) (q0 := 0) rfl ((fw_get (by decide)).trans (by rw [mE_obj]; rfl)), fun U hU hW => ⟨rfl, by rw [hU], by rw [hU]; exact hP, va_K.moved hW.alike hK⟩⟩ rfl rfl hl.1 rfl (lv_room (Nat.le_of_ble_eq_true rfl)) dX10_readsToken_124 ⟨Nat.le_of_ble_eq_true rfl, Nat.le_of_ble_eq_true rfl⟩) hS (fun q _ h => fA_le hS.1 q h) (fA_le hS.1) (fun u9 t9 H1 locs ht9 hvm9 hw9 hB9 hz9 hk9 hS => ?_)
            obtain ⟨hP, -⟩ := hB9
            rw [ht9] at hP
            generalize H1 = H at hP hS ⊢
            obtain ⟨μ17, eμ17⟩ : ∃ x : va_M, x = u9 := ⟨_, rfl⟩
            rw [← eμ17] at hP hw9
            have hμ17 := hw9; clear hw9
            rw [if_pos (by omega)] at hμ17
            have w6 : μ17 0 6 = 2 := by rw [hμ17, uz_n (by omega), uz_s]
            have w4 : μ17 0 4 = n0 + L + (if rs < 2 then 1 else 0) := by rw [hμ17, uz_n (by omega), uz_n (by omega)]; exact a4
            have wv : fr PN μ μ17 := by rw [hμ17]; exact fr_uz (fr_uz av (by simp [PN])) (by simp [PN])
            refine lv_aload_n hx hb dX10_readsToken_127 rfl (lv_at hl 0 rfl) ?_
            refine fz_get (D := (dC, dI)) (ci := 10) (v := .int (iZ (μ17 0 6))) (C := RX10) (T := TX10) (N := 53) hx hb hts inG10 hown hK hP (k := 0) (by decide) (F := mF h0) mE_obj rfl 6 (by decide) (hts _ k1172) (fun _ h9 => h9) rfl dX10_readsToken_128 ?_
            refine fz_if_le (tgt := 136) (by constructor <;> omega) hx hb dX10_readsToken_131 (by decide) (fun h9 => (by omega)) (fun c131_ => ?_)
            refine lv_iconst (v := iZ (-1)) hx hb dX10_readsToken_134 rfl ?_
            exact W.iret (v := iZ ((-1))) hx hb hr (fun t9 ht9 hW9 => ⟨⟨iZ ((-1)), (μ17, (-1)), rfl, ⟨rfl, (by
                                dsimp only
                                exact ⟨rs, n0, L, htk, hsm, by rw [w4]; split <;> omega, by rw [w4, ← t4]; exact tle, Or.inr ⟨tok, w4, Or.inr (Or.inl ⟨ano, by omega, wv, w6, rfl⟩)⟩⟩)⟩, by rw [ht9]; exact hP, va_K.moved hW9.alike hK⟩, hS.F ht9⟩) hS.2.2 dX10_readsToken_135

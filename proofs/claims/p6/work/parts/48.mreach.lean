theorem k1651 : (Cond.methodLink "PageSkeletonModel" (395 : Nat) ({ cls := "PageSkeletonModel", name := "opensOn", desc := "()Z" } : MethodName)) ∈ wsG := wsG_at 1651 (by decide +kernel) (by decide +kernel)
theorem k1653 : (Cond.instanceMethod ({ cls := "PageSkeletonModel", name := "opensOn", desc := "()Z" } : MethodName)) ∈ wsG := wsG_at 1653 (by decide +kernel) (by decide +kernel)
theorem k1654 : (Cond.code ({ cls := "PageSkeletonModel", name := "opensOn", desc := "()Z" } : MethodName) prog_12_method_84_code (4 : Nat) (Option.some FieldType.boolean)) ∈ wsG := wsG_at 1654 (by decide +kernel) (by decide +kernel)
theorem ks_yX10_opensOn : Cond.selects RX10 yX10_opensOn yX10_opensOn ∈ wsG := wsG_mem (by decide +kernel) (by decide +kernel)
theorem dX10_reach_0 : decode cX10_reach 0 = .ok (.aload_n 0, 1) := by decide +kernel
theorem dX10_reach_1 : decode cX10_reach 1 = .ok (.iconst 0, 1) := by decide +kernel
theorem dX10_reach_2 : decode cX10_reach 2 = .ok (.putfield 127, 3) := by decide +kernel
theorem dX10_reach_5 : decode cX10_reach 5 = .ok (.aload_n 0, 1) := by decide +kernel
theorem dX10_reach_6 : decode cX10_reach 6 = .ok (.aload_n 0, 1) := by decide +kernel
theorem dX10_reach_7 : decode cX10_reach 7 = .ok (.iload_n 1, 1) := by decide +kernel
theorem dX10_reach_8 : decode cX10_reach 8 = .ok (.invokevirtual 346, 3) := by decide +kernel
theorem dX10_reach_11 : decode cX10_reach 11 = .ok (.ifCond .ne 7, 3) := by decide +kernel
theorem dX10_reach_14 : decode cX10_reach 14 = .ok (.iconst 1, 1) := by decide +kernel
theorem dX10_reach_15 : decode cX10_reach 15 = .ok (.goto 4, 3) := by decide +kernel
theorem dX10_reach_18 : decode cX10_reach 18 = .ok (.iconst 0, 1) := by decide +kernel
theorem dX10_reach_19 : decode cX10_reach 19 = .ok (.iconst 1, 1) := by decide +kernel
theorem dX10_reach_20 : decode cX10_reach 20 = .ok (.iconst 0, 1) := by decide +kernel
theorem dX10_reach_21 : decode cX10_reach 21 = .ok (.invokevirtual 177, 3) := by decide +kernel
theorem dX10_reach_24 : decode cX10_reach 24 = .ok (.ifCond .eq 5, 3) := by decide +kernel
theorem dX10_reach_27 : decode cX10_reach 27 = .ok (.iconst 0, 1) := by decide +kernel
theorem dX10_reach_28 : decode cX10_reach 28 = .ok (.ireturn, 1) := by decide +kernel
theorem dX10_reach_29 : decode cX10_reach 29 = .ok (.aload_n 0, 1) := by decide +kernel
theorem dX10_reach_30 : decode cX10_reach 30 = .ok (.invokevirtual 380, 3) := by decide +kernel
theorem dX10_reach_33 : decode cX10_reach 33 = .ok (.iconst 0, 1) := by decide +kernel
theorem dX10_reach_34 : decode cX10_reach 34 = .ok (.istore_n 2, 1) := by decide +kernel
theorem dX10_reach_35 : decode cX10_reach 35 = .ok (.iload_n 2, 1) := by decide +kernel
theorem dX10_reach_36 : decode cX10_reach 36 = .ok (.aload_n 0, 1) := by decide +kernel
theorem dX10_reach_37 : decode cX10_reach 37 = .ok (.getfield 367, 3) := by decide +kernel
theorem dX10_reach_40 : decode cX10_reach 40 = .ok (.if_icmp .gt 24, 3) := by decide +kernel
theorem dX10_reach_43 : decode cX10_reach 43 = .ok (.aload_n 0, 1) := by decide +kernel
theorem dX10_reach_44 : decode cX10_reach 44 = .ok (.getfield 103, 3) := by decide +kernel
theorem dX10_reach_47 : decode cX10_reach 47 = .ok (.iload_n 2, 1) := by decide +kernel
theorem dX10_reach_48 : decode cX10_reach 48 = .ok (.iload_n 2, 1) := by decide +kernel
theorem dX10_reach_49 : decode cX10_reach 49 = .ok (.ifCond .ne 7, 3) := by decide +kernel
theorem dX10_reach_52 : decode cX10_reach 52 = .ok (.iconst 1, 1) := by decide +kernel
theorem dX10_reach_53 : decode cX10_reach 53 = .ok (.goto 4, 3) := by decide +kernel
theorem dX10_reach_56 : decode cX10_reach 56 = .ok (.iconst 0, 1) := by decide +kernel
theorem dX10_reach_57 : decode cX10_reach 57 = .ok (.bastore, 1) := by decide +kernel
theorem dX10_reach_58 : decode cX10_reach 58 = .ok (.iinc 2 1, 3) := by decide +kernel
theorem dX10_reach_61 : decode cX10_reach 61 = .ok (.goto (-26), 3) := by decide +kernel
theorem dX10_reach_64 : decode cX10_reach 64 = .ok (.iconst 0, 1) := by decide +kernel
theorem dX10_reach_65 : decode cX10_reach 65 = .ok (.istore_n 2, 1) := by decide +kernel
theorem dX10_reach_66 : decode cX10_reach 66 = .ok (.iload_n 2, 1) := by decide +kernel
theorem dX10_reach_67 : decode cX10_reach 67 = .ok (.aload_n 0, 1) := by decide +kernel
theorem dX10_reach_68 : decode cX10_reach 68 = .ok (.getfield 34, 3) := by decide +kernel
theorem dX10_reach_71 : decode cX10_reach 71 = .ok (.iload_n 1, 1) := by decide +kernel
theorem dX10_reach_72 : decode cX10_reach 72 = .ok (.iaload, 1) := by decide +kernel
theorem dX10_reach_73 : decode cX10_reach 73 = .ok (.if_icmp .ge 149, 3) := by decide +kernel
theorem dX10_reach_76 : decode cX10_reach 76 = .ok (.aload_n 0, 1) := by decide +kernel
theorem dX10_reach_77 : decode cX10_reach 77 = .ok (.invokevirtual 395, 3) := by decide +kernel
theorem dX10_reach_80 : decode cX10_reach 80 = .ok (.pop, 1) := by decide +kernel
theorem dX10_reach_81 : decode cX10_reach 81 = .ok (.iconst 0, 1) := by decide +kernel
theorem dX10_reach_82 : decode cX10_reach 82 = .ok (.istore_n 3, 1) := by decide +kernel
theorem dX10_reach_83 : decode cX10_reach 83 = .ok (.iconst 0, 1) := by decide +kernel
theorem dX10_reach_84 : decode cX10_reach 84 = .ok (.istore 4, 2) := by decide +kernel
theorem dX10_reach_86 : decode cX10_reach 86 = .ok (.iload 4, 2) := by decide +kernel
theorem dX10_reach_88 : decode cX10_reach 88 = .ok (.aload_n 0, 1) := by decide +kernel
theorem dX10_reach_89 : decode cX10_reach 89 = .ok (.getfield 367, 3) := by decide +kernel
theorem dX10_reach_92 : decode cX10_reach 92 = .ok (.if_icmp .gt 17, 3) := by decide +kernel
theorem dX10_reach_95 : decode cX10_reach 95 = .ok (.aload_n 0, 1) := by decide +kernel
theorem dX10_reach_96 : decode cX10_reach 96 = .ok (.getfield 106, 3) := by decide +kernel
theorem dX10_reach_99 : decode cX10_reach 99 = .ok (.iload 4, 2) := by decide +kernel
theorem dX10_reach_101 : decode cX10_reach 101 = .ok (.iconst 0, 1) := by decide +kernel
theorem dX10_reach_102 : decode cX10_reach 102 = .ok (.bastore, 1) := by decide +kernel
theorem dX10_reach_103 : decode cX10_reach 103 = .ok (.iinc 4 1, 3) := by decide +kernel
theorem dX10_reach_106 : decode cX10_reach 106 = .ok (.goto (-20), 3) := by decide +kernel
theorem dX10_reach_109 : decode cX10_reach 109 = .ok (.iconst 0, 1) := by decide +kernel
theorem dX10_reach_110 : decode cX10_reach 110 = .ok (.istore 4, 2) := by decide +kernel
theorem dX10_reach_112 : decode cX10_reach 112 = .ok (.iload 4, 2) := by decide +kernel
theorem dX10_reach_114 : decode cX10_reach 114 = .ok (.aload_n 0, 1) := by decide +kernel
theorem dX10_reach_115 : decode cX10_reach 115 = .ok (.getfield 367, 3) := by decide +kernel
theorem dX10_reach_118 : decode cX10_reach 118 = .ok (.if_icmp .ge 60, 3) := by decide +kernel
theorem dX10_reach_121 : decode cX10_reach 121 = .ok (.aload_n 0, 1) := by decide +kernel
theorem dX10_reach_122 : decode cX10_reach 122 = .ok (.getfield 103, 3) := by decide +kernel
theorem dX10_reach_125 : decode cX10_reach 125 = .ok (.iload 4, 2) := by decide +kernel
theorem dX10_reach_127 : decode cX10_reach 127 = .ok (.baload, 1) := by decide +kernel
theorem dX10_reach_128 : decode cX10_reach 128 = .ok (.ifCond .eq 44, 3) := by decide +kernel
theorem dX10_reach_131 : decode cX10_reach 131 = .ok (.aload_n 0, 1) := by decide +kernel
theorem dX10_reach_132 : decode cX10_reach 132 = .ok (.iload 4, 2) := by decide +kernel
theorem dX10_reach_134 : decode cX10_reach 134 = .ok (.invokevirtual 371, 3) := by decide +kernel
theorem dX10_reach_137 : decode cX10_reach 137 = .ok (.ifCond .eq 35, 3) := by decide +kernel
theorem dX10_reach_140 : decode cX10_reach 140 = .ok (.aload_n 0, 1) := by decide +kernel
theorem dX10_reach_141 : decode cX10_reach 141 = .ok (.iload 4, 2) := by decide +kernel
theorem dX10_reach_143 : decode cX10_reach 143 = .ok (.aload_n 0, 1) := by decide +kernel
theorem dX10_reach_144 : decode cX10_reach 144 = .ok (.getfield 31, 3) := by decide +kernel
theorem dX10_reach_147 : decode cX10_reach 147 = .ok (.iload_n 1, 1) := by decide +kernel
theorem dX10_reach_148 : decode cX10_reach 148 = .ok (.aaload, 1) := by decide +kernel
theorem dX10_reach_149 : decode cX10_reach 149 = .ok (.iload_n 2, 1) := by decide +kernel
theorem dX10_reach_150 : decode cX10_reach 150 = .ok (.iaload, 1) := by decide +kernel
theorem dX10_reach_151 : decode cX10_reach 151 = .ok (.invokevirtual 383, 3) := by decide +kernel
theorem dX10_reach_154 : decode cX10_reach 154 = .ok (.ifCond .ne 6, 3) := by decide +kernel
theorem dX10_reach_157 : decode cX10_reach 157 = .ok (.goto 15, 3) := by decide +kernel
theorem dX10_reach_160 : decode cX10_reach 160 = .ok (.aload_n 0, 1) := by decide +kernel
theorem dX10_reach_161 : decode cX10_reach 161 = .ok (.getfield 106, 3) := by decide +kernel
theorem dX10_reach_164 : decode cX10_reach 164 = .ok (.iload 4, 2) := by decide +kernel
theorem dX10_reach_166 : decode cX10_reach 166 = .ok (.iconst 1, 1) := by decide +kernel
theorem dX10_reach_167 : decode cX10_reach 167 = .ok (.iadd, 1) := by decide +kernel
theorem dX10_reach_168 : decode cX10_reach 168 = .ok (.iconst 1, 1) := by decide +kernel
theorem dX10_reach_169 : decode cX10_reach 169 = .ok (.bastore, 1) := by decide +kernel
theorem dX10_reach_170 : decode cX10_reach 170 = .ok (.iconst 1, 1) := by decide +kernel
theorem dX10_reach_171 : decode cX10_reach 171 = .ok (.istore_n 3, 1) := by decide +kernel
theorem dX10_reach_172 : decode cX10_reach 172 = .ok (.iinc 4 1, 3) := by decide +kernel
theorem dX10_reach_175 : decode cX10_reach 175 = .ok (.goto (-63), 3) := by decide +kernel
theorem dX10_reach_178 : decode cX10_reach 178 = .ok (.iload_n 3, 1) := by decide +kernel
theorem dX10_reach_179 : decode cX10_reach 179 = .ok (.ifCond .ne 5, 3) := by decide +kernel
theorem dX10_reach_182 : decode cX10_reach 182 = .ok (.iload_n 2, 1) := by decide +kernel
theorem dX10_reach_183 : decode cX10_reach 183 = .ok (.ireturn, 1) := by decide +kernel
theorem dX10_reach_184 : decode cX10_reach 184 = .ok (.iconst 0, 1) := by decide +kernel
theorem dX10_reach_185 : decode cX10_reach 185 = .ok (.istore 4, 2) := by decide +kernel
theorem dX10_reach_187 : decode cX10_reach 187 = .ok (.iload 4, 2) := by decide +kernel
theorem dX10_reach_189 : decode cX10_reach 189 = .ok (.aload_n 0, 1) := by decide +kernel
theorem dX10_reach_190 : decode cX10_reach 190 = .ok (.getfield 367, 3) := by decide +kernel
theorem dX10_reach_193 : decode cX10_reach 193 = .ok (.if_icmp .gt 23, 3) := by decide +kernel
theorem dX10_reach_196 : decode cX10_reach 196 = .ok (.aload_n 0, 1) := by decide +kernel
theorem dX10_reach_197 : decode cX10_reach 197 = .ok (.getfield 103, 3) := by decide +kernel
theorem dX10_reach_200 : decode cX10_reach 200 = .ok (.iload 4, 2) := by decide +kernel
theorem dX10_reach_202 : decode cX10_reach 202 = .ok (.aload_n 0, 1) := by decide +kernel
theorem dX10_reach_203 : decode cX10_reach 203 = .ok (.getfield 106, 3) := by decide +kernel
theorem dX10_reach_206 : decode cX10_reach 206 = .ok (.iload 4, 2) := by decide +kernel
theorem dX10_reach_208 : decode cX10_reach 208 = .ok (.baload, 1) := by decide +kernel
theorem dX10_reach_209 : decode cX10_reach 209 = .ok (.bastore, 1) := by decide +kernel
theorem dX10_reach_210 : decode cX10_reach 210 = .ok (.iinc 4 1, 3) := by decide +kernel
theorem dX10_reach_213 : decode cX10_reach 213 = .ok (.goto (-26), 3) := by decide +kernel
theorem dX10_reach_216 : decode cX10_reach 216 = .ok (.iinc 2 1, 3) := by decide +kernel
theorem dX10_reach_219 : decode cX10_reach 219 = .ok (.goto (-153), 3) := by decide +kernel
theorem dX10_reach_222 : decode cX10_reach 222 = .ok (.iload_n 2, 1) := by decide +kernel
theorem dX10_reach_223 : decode cX10_reach 223 = .ok (.ireturn, 1) := by decide +kernel
def O2 (x y : Nat) : Prop := x = 6317 ∨ x = 6318
theorem stOK_O2 {μ u : va_M} (h : stOK μ) (hf : fr O2 μ u) : stOK u := stOK_fr h hf (fun x y hh => by unfold O2 at hh; omega)
theorem onB_set {μ : va_M} {k q : Nat} {v : Int} (hk : k ≠ 0) (h : onB μ k) (hv : v = 0 ∨ v = 1) : onB (uz μ k q v) k := fun x hx => by
  rw [uz_n (by omega)] at hx
  by_cases h9 : x = q
  · subst h9; rw [uz_s]; exact hv
  · rw [uz_n (by omega)]; exact h x hx
theorem onB_oth {μ : va_M} {k k2 q : Nat} {v : Int} (hk : k ≠ 0) (hk2 : k2 ≠ k) (h : onB μ k2) : onB (uz μ k q v) k2 := fun x hx => by
  rw [uz_n (by omega)] at hx
  rw [uz_n (by omega)]; exact h x hx
theorem O2_PS {x y : Nat} (h : O2 x y) : PS x y := by unfold O2 at h; unfold PS; omega
set_option maxHeartbeats 4000000 in
set_option maxRecDepth 100000 in
theorem LX10_reach_35 {p : Program} {l : Launch} {e : Env} {R : Room} {s : State} {m : MethodId} {args : Array Value} {below : List Frame} {meth : Method} {c : Code} {cells slots : Nat} {Q : State → Prop} {dC : Nat → ClassId} {dI : Nat → Nat → Nat} {h0 : Nat} {cI cZ cII cIII : ClassId} (hx : p.tables.exec = Jvm.exec) (hb : c.code = cX10_reach) (hml : c.maxLocals = 5) (hown : s.vm.findClass RX10 = some m.cls) (hts : ∀ w ∈ wsG, w.before args s = true) (hK : va_K (dC, dI) vwCl (mT cI cZ cII cIII) s) (hRf : 5 ≤ R.frames) (hRl : 100 ≤ R.locals) (hRc : cells ≤ R.cells) (hRs : slots ≤ R.slots) (μ0 : va_M) (pp : Int) (hO : stOK μ0) (hexit64 : ∀ (q : Int) (μ : va_M) (H : Heap) (locs : List Loc) (ls : Array Slot), (fr O2 μ0 μ) → (onB μ 6317) → va_P (dC, dI) vwCl (fw (mE cI cZ cII cIII h0) h0 6325 μ) H → va_S (fA h0 6325 s.heap.size) s.heap H locs → lv_has ls 5 [(1, .int (iZ (pp))), (0, .ref h0)] → W p l e R s m args below meth c H locs cells slots Q (F0 m 64 ls [])) :
    ∀ (n9 : Nat) (q : Int) (μ : va_M) (H : Heap) (locs : List Loc) (ls : Array Slot), (0 ≤ q ∧ q ≤ μ0 0 39 + 1) → (fr O2 μ0 μ) → (∀ x : Nat, (x : Int) < q → μ 6317 x = 0 ∨ μ 6317 x = 1) → (2000 - q).toNat < n9 → va_P (dC, dI) vwCl (fw (mE cI cZ cII cIII h0) h0 6325 μ) H → va_S (fA h0 6325 s.heap.size) s.heap H locs → lv_has ls 5 [(2, .int (iZ (q))), (1, .int (iZ (pp))), (0, .ref h0)] → W p l e R s m args below meth c H locs cells slots Q (F0 m 35 ls []) := by
  intro n9
  induction n9 with
  | zero => intro q μ H locs ls hq hf hz hm9 hP hS hl; exact absurd hm9 (Nat.not_lt_zero _)
  | succ n9 ih =>
    intro q μ H locs ls hq hf hz hm9 hP hS hl
    have e39 : μ 0 39 = μ0 0 39 := hf 0 39 (by unfold O2; omega)
    have hO1 := stOK_O2 hO hf
    have hb1_ := hO.1
    have hb2_ := hO.2.1
    refine lv_iload_n hx hb dX10_reach_35 rfl (lv_at hl 0 rfl) ?_
    refine lv_aload_n hx hb dX10_reach_36 rfl (lv_at hl 2 rfl) ?_
    refine fz_get (D := (dC, dI)) (ci := 10) (v := .int (iZ (μ 0 39))) (C := RX10) (T := TX10) (N := 53) hx hb hts inG10 hown hK hP (k := 0) (by decide) (F := mF h0) mE_obj rfl 39 (by decide) (hts _ k1205) (fun _ h9 => h9) rfl dX10_reach_37 ?_
    refine fz_icmp_gt (tgt := 64) (by constructor <;> omega) (by constructor <;> omega) hx hb dX10_reach_40 (by decide) (fun c40_ => ?_) (fun c40_ => ?_)
    · exact hexit64 (q) μ H locs ls (by exact hf) (by
                    intro x hx
                    exact hz x (by omega)) hP hS (lv_sub hl [1, 2] rfl)
    · refine lv_aload_n hx hb dX10_reach_43 rfl (lv_at hl 2 rfl) ?_
      refine fz_get (D := (dC, dI)) (ci := 10) (v := .ref (h0 + 6317)) (C := RX10) (T := TX10) (N := 53) hx hb hts inG10 hown hK hP (k := 0) (by decide) (F := mF h0) mE_obj rfl 45 (by decide) (hts _ k1211) (fun _ h9 => h9) rfl dX10_reach_44 ?_
      refine lv_iload_n hx hb dX10_reach_47 rfl (lv_at hl 0 rfl) ?_
      refine lv_iload_n hx hb dX10_reach_48 rfl (lv_at hl 0 rfl) ?_
      refine fz_if_ne (tgt := 56) (by constructor <;> omega) hx hb dX10_reach_49 (by decide) (fun c49_ => ?_) (fun c49_ => ?_)
      · refine lv_iconst (v := iZ 0) hx hb dX10_reach_56 rfl ?_
        refine fz_zst (k := 6317) (n := 1900) (i := q) (z := 0) hx hb hK hP fA_in hS 1 (by decide) mE_isOn rfl ⟨by omega, by omega⟩ (by decide) (by decide) dX10_reach_57 (fun H locs hP hS => ?_)
        obtain ⟨μ1, eμ1⟩ : ∃ x : va_M, x = uz μ 6317 (q).toNat (0) := ⟨_, rfl⟩
        rw [← eμ1] at hP
        refine lv_iinc (v := iZ (q + 1)) (lv' := [(2, .int (iZ (q + 1))), (1, .int (iZ (pp))), (0, .ref h0)]) hx hb dX10_reach_58 hl (k := 0) rfl (iZ_add _ _) (by decide) rfl (fun ls hl => ?_)
        refine lv_goto (tgt := 35) hx hb dX10_reach_61 (by decide) ?_
        exact ih (q + 1) μ1 H locs ls (by omega) (by
                        subst eμ1
                        exact fr_uz hf (Or.inl rfl)) (by
                        subst eμ1
                        intro x hx
                        by_cases h9 : x = q.toNat
                        · subst h9; rw [uz_s]; omega
                        · rw [uz_n (by omega)]; exact hz x (by omega)) (by omega) hP hS (lv_sub hl [0, 1, 2] rfl)
      · refine lv_iconst (v := iZ 1) hx hb dX10_reach_52 rfl ?_
        refine lv_goto (tgt := 57) hx hb dX10_reach_53 (by decide) ?_
        refine fz_zst (k := 6317) (n := 1900) (i := q) (z := 1) hx hb hK hP fA_in hS 1 (by decide) mE_isOn rfl ⟨by omega, by omega⟩ (by decide) (by decide) dX10_reach_57 (fun H locs hP hS => ?_)
        obtain ⟨μ2, eμ2⟩ : ∃ x : va_M, x = uz μ 6317 (q).toNat (1) := ⟨_, rfl⟩
        rw [← eμ2] at hP
        refine lv_iinc (v := iZ (q + 1)) (lv' := [(2, .int (iZ (q + 1))), (1, .int (iZ (pp))), (0, .ref h0)]) hx hb dX10_reach_58 hl (k := 0) rfl (iZ_add _ _) (by decide) rfl (fun ls hl => ?_)
        refine lv_goto (tgt := 35) hx hb dX10_reach_61 (by decide) ?_
        exact ih (q + 1) μ2 H locs ls (by omega) (by
                        subst eμ2
                        exact fr_uz hf (Or.inl rfl)) (by
                        subst eμ2
                        intro x hx
                        by_cases h9 : x = q.toNat
                        · subst h9; rw [uz_s]; omega
                        · rw [uz_n (by omega)]; exact hz x (by omega)) (by omega) hP hS (lv_sub hl [0, 1, 2] rfl)
set_option maxHeartbeats 4000000 in
set_option maxRecDepth 100000 in
theorem LX10_reach_86 {p : Program} {l : Launch} {e : Env} {R : Room} {s : State} {m : MethodId} {args : Array Value} {below : List Frame} {meth : Method} {c : Code} {cells slots : Nat} {Q : State → Prop} {dC : Nat → ClassId} {dI : Nat → Nat → Nat} {h0 : Nat} {cI cZ cII cIII : ClassId} (hx : p.tables.exec = Jvm.exec) (hb : c.code = cX10_reach) (hml : c.maxLocals = 5) (hown : s.vm.findClass RX10 = some m.cls) (hts : ∀ w ∈ wsG, w.before args s = true) (hK : va_K (dC, dI) vwCl (mT cI cZ cII cIII) s) (hRf : 5 ≤ R.frames) (hRl : 100 ≤ R.locals) (hRc : cells ≤ R.cells) (hRs : slots ≤ R.slots) (μ0 : va_M) (pp : Int) (n : Int) (hO : stOK μ0) (hexit109 : ∀ (q : Int) (μ : va_M) (H : Heap) (locs : List Loc) (ls : Array Slot), (fr O2 μ0 μ) → (onB μ 6317 ∧ onB μ 6318) → va_P (dC, dI) vwCl (fw (mE cI cZ cII cIII h0) h0 6325 μ) H → va_S (fA h0 6325 s.heap.size) s.heap H locs → lv_has ls 5 [(3, .int (iZ (0))), (2, .int (iZ (n))), (1, .int (iZ (pp))), (0, .ref h0)] → W p l e R s m args below meth c H locs cells slots Q (F0 m 109 ls [])) :
    ∀ (n9 : Nat) (q : Int) (μ : va_M) (H : Heap) (locs : List Loc) (ls : Array Slot), (0 ≤ q ∧ q ≤ μ0 0 39 + 1) → (fr O2 μ0 μ) → (onB μ 6317) → (∀ x : Nat, (x : Int) < q → μ 6318 x = 0 ∨ μ 6318 x = 1) → (2000 - q).toNat < n9 → va_P (dC, dI) vwCl (fw (mE cI cZ cII cIII h0) h0 6325 μ) H → va_S (fA h0 6325 s.heap.size) s.heap H locs → lv_has ls 5 [(4, .int (iZ (q))), (3, .int (iZ (0))), (2, .int (iZ (n))), (1, .int (iZ (pp))), (0, .ref h0)] → W p l e R s m args below meth c H locs cells slots Q (F0 m 86 ls []) := by
  intro n9
  induction n9 with
  | zero => intro q μ H locs ls hq hf hb2 hz hm9 hP hS hl; exact absurd hm9 (Nat.not_lt_zero _)
  | succ n9 ih =>
    intro q μ H locs ls hq hf hb2 hz hm9 hP hS hl
    have e39 : μ 0 39 = μ0 0 39 := hf 0 39 (by unfold O2; omega)
    have hO1 := stOK_O2 hO hf
    have hb1_ := hO.1
    have hb2_ := hO.2.1
    refine lv_iload hx hb dX10_reach_86 (lv_at hl 0 rfl) ?_
    refine lv_aload_n hx hb dX10_reach_88 rfl (lv_at hl 4 rfl) ?_
    refine fz_get (D := (dC, dI)) (ci := 10) (v := .int (iZ (μ 0 39))) (C := RX10) (T := TX10) (N := 53) hx hb hts inG10 hown hK hP (k := 0) (by decide) (F := mF h0) mE_obj rfl 39 (by decide) (hts _ k1205) (fun _ h9 => h9) rfl dX10_reach_89 ?_
    refine fz_icmp_gt (tgt := 109) (by constructor <;> omega) (by constructor <;> omega) hx hb dX10_reach_92 (by decide) (fun c92_ => ?_) (fun c92_ => ?_)
    · exact hexit109 (q) μ H locs ls (by exact hf) (by exact ⟨hb2, fun x hx => hz x (by omega)⟩) hP hS (lv_sub hl [1, 2, 3, 4] rfl)
    · refine lv_aload_n hx hb dX10_reach_95 rfl (lv_at hl 4 rfl) ?_
      refine fz_get (D := (dC, dI)) (ci := 10) (v := .ref (h0 + 6318)) (C := RX10) (T := TX10) (N := 53) hx hb hts inG10 hown hK hP (k := 0) (by decide) (F := mF h0) mE_obj rfl 46 (by decide) (hts _ k1212) (fun _ h9 => h9) rfl dX10_reach_96 ?_
      refine lv_iload hx hb dX10_reach_99 (lv_at hl 0 rfl) ?_
      refine lv_iconst (v := iZ 0) hx hb dX10_reach_101 rfl ?_
      refine fz_zst (k := 6318) (n := 1900) (i := q) (z := 0) hx hb hK hP fA_in hS 1 (by decide) mE_isNext rfl ⟨by omega, by omega⟩ (by decide) (by decide) dX10_reach_102 (fun H locs hP hS => ?_)
      obtain ⟨μ3, eμ3⟩ : ∃ x : va_M, x = uz μ 6318 (q).toNat (0) := ⟨_, rfl⟩
      rw [← eμ3] at hP
      refine lv_iinc (v := iZ (q + 1)) (lv' := [(4, .int (iZ (q + 1))), (3, .int (iZ (0))), (2, .int (iZ (n))), (1, .int (iZ (pp))), (0, .ref h0)]) hx hb dX10_reach_103 hl (k := 0) rfl (iZ_add _ _) (by decide) rfl (fun ls hl => ?_)
      refine lv_goto (tgt := 86) hx hb dX10_reach_106 (by decide) ?_
      exact ih (q + 1) μ3 H locs ls (by omega) (by
                    subst eμ3
                    exact fr_uz hf (Or.inr rfl)) (by
                    subst eμ3
                    exact onB_oth (by decide) (by decide) hb2) (by
                    subst eμ3
                    intro x hx
                    by_cases h9 : x = q.toNat
                    · subst h9; rw [uz_s]; omega
                    · rw [uz_n (by omega)]; exact hz x (by omega)) (by omega) hP hS (lv_sub hl [0, 1, 2, 3, 4] rfl)
set_option maxHeartbeats 4000000 in
set_option maxRecDepth 100000 in
theorem LX10_reach_112 {p : Program} {l : Launch} {e : Env} {R : Room} {s : State} {m : MethodId} {args : Array Value} {below : List Frame} {meth : Method} {c : Code} {cells slots : Nat} {Q : State → Prop} {dC : Nat → ClassId} {dI : Nat → Nat → Nat} {h0 : Nat} {cI cZ cII cIII : ClassId} (hx : p.tables.exec = Jvm.exec) (hb : c.code = cX10_reach) (hml : c.maxLocals = 5) (hown : s.vm.findClass RX10 = some m.cls) (hts : ∀ w ∈ wsG, w.before args s = true) (hK : va_K (dC, dI) vwCl (mT cI cZ cII cIII) s) (hRf : 5 ≤ R.frames) (hRl : 100 ≤ R.locals) (hRc : cells ≤ R.cells) (hRs : slots ≤ R.slots) (μ0 : va_M) (pp : Int) (n : Int) (hO : stOK μ0) (hpp : 0 ≤ pp ∧ pp < 8) (hn : 0 ≤ n ∧ n < 60) (hsr : ∀ j : Nat, j < 201 → inR (μ0 3 j)) (htk : 0 ≤ μ0 (7 + pp.toNat) n.toNat ∧ μ0 (7 + pp.toNat) n.toNat < 201) (hexit178 : ∀ (an : Int) (q : Int) (μ : va_M) (H : Heap) (locs : List Loc) (ls : Array Slot), (fr O2 μ0 μ) → (onB μ 6317 ∧ onB μ 6318) → (0 ≤ an ∧ an ≤ 1) → va_P (dC, dI) vwCl (fw (mE cI cZ cII cIII h0) h0 6325 μ) H → va_S (fA h0 6325 s.heap.size) s.heap H locs → lv_has ls 5 [(3, .int (iZ (an))), (2, .int (iZ (n))), (1, .int (iZ (pp))), (0, .ref h0)] → W p l e R s m args below meth c H locs cells slots Q (F0 m 178 ls [])) :
    ∀ (n9 : Nat) (an : Int) (q : Int) (μ : va_M) (H : Heap) (locs : List Loc) (ls : Array Slot), (0 ≤ q ∧ q ≤ μ0 0 39) → (fr O2 μ0 μ) → (onB μ 6317 ∧ onB μ 6318) → (0 ≤ an ∧ an ≤ 1) → (2000 - q).toNat < n9 → va_P (dC, dI) vwCl (fw (mE cI cZ cII cIII h0) h0 6325 μ) H → va_S (fA h0 6325 s.heap.size) s.heap H locs → lv_has ls 5 [(4, .int (iZ (q))), (3, .int (iZ (an))), (2, .int (iZ (n))), (1, .int (iZ (pp))), (0, .ref h0)] → W p l e R s m args below meth c H locs cells slots Q (F0 m 112 ls []) := by
  intro n9
  induction n9 with
  | zero => intro an q μ H locs ls hq hf hb2 ha hm9 hP hS hl; exact absurd hm9 (Nat.not_lt_zero _)
  | succ n9 ih =>
    intro an q μ H locs ls hq hf hb2 ha hm9 hP hS hl
    have e39 : μ 0 39 = μ0 0 39 := hf 0 39 (by unfold O2; omega)
    have hO1 := stOK_O2 hO hf
    have hb1_ := hO.1
    have hb2_ := hO.2.1
    have e7 : μ (7 + pp.toNat) n.toNat = μ0 (7 + pp.toNat) n.toNat := hf _ _ (by unfold O2; omega)
    refine lv_iload hx hb dX10_reach_112 (lv_at hl 0 rfl) ?_
    refine lv_aload_n hx hb dX10_reach_114 rfl (lv_at hl 4 rfl) ?_
    refine fz_get (D := (dC, dI)) (ci := 10) (v := .int (iZ (μ 0 39))) (C := RX10) (T := TX10) (N := 53) hx hb hts inG10 hown hK hP (k := 0) (by decide) (F := mF h0) mE_obj rfl 39 (by decide) (hts _ k1205) (fun _ h9 => h9) rfl dX10_reach_115 ?_
    refine fz_icmp_ge (tgt := 178) (by constructor <;> omega) (by constructor <;> omega) hx hb dX10_reach_118 (by decide) (fun c118_ => ?_) (fun c118_ => ?_)
    · exact hexit178 (an) (q) μ H locs ls (by exact hf) (by exact hb2) (by omega) hP hS (lv_sub hl [1, 2, 3, 4] rfl)
    · have hbq := hb2.1 q.toNat (by omega)
      refine lv_aload_n hx hb dX10_reach_121 rfl (lv_at hl 4 rfl) ?_
      refine fz_get (D := (dC, dI)) (ci := 10) (v := .ref (h0 + 6317)) (C := RX10) (T := TX10) (N := 53) hx hb hts inG10 hown hK hP (k := 0) (by decide) (F := mF h0) mE_obj rfl 45 (by decide) (hts _ k1211) (fun _ h9 => h9) rfl dX10_reach_122 ?_
      refine lv_iload hx hb dX10_reach_125 (lv_at hl 0 rfl) ?_
      refine fz_zld (k := 6317) (n := 1900) hx hb hK hP 1 (by decide) mE_isOn rfl ⟨by omega, by omega⟩ (by decide) dX10_reach_127 ?_
      refine fz_if_eq (tgt := 172) (by constructor <;> omega) hx hb dX10_reach_128 (by decide) (fun c128_ => ?_) (fun c128_ => ?_)
      · refine lv_iinc (v := iZ (q + 1)) (lv' := [(4, .int (iZ (q + 1))), (3, .int (iZ (an))), (2, .int (iZ (n))), (1, .int (iZ (pp))), (0, .ref h0)]) hx hb dX10_reach_172 hl (k := 0) rfl (iZ_add _ _) (by decide) rfl (fun ls hl => ?_)
        refine lv_goto (tgt := 112) hx hb dX10_reach_175 (by decide) ?_
        exact ih (an) (q + 1) μ H locs ls (by omega) (by first | exact hf | (subst hx; exact fr_uz hf (Or.inr rfl))) (by first | exact hb2 | (subst hx; exact ⟨onB_oth (by decide) (by decide) hb2.1, onB_set (by decide) hb2.2 (Or.inr rfl)⟩)) (by omega) (by omega) hP hS (lv_sub hl [0, 1, 2, 3, 4] rfl)
      · refine lv_aload_n hx hb dX10_reach_131 rfl (lv_at hl 4 rfl) ?_
        refine lv_iload hx hb dX10_reach_132 (lv_at hl 0 rfl) ?_
        refine va_calli (va_runV (As := [.int (iZ (q))]) (rest := []) ⟨hx, hb, hml, hown, hts⟩ (m_isLeaf l dC dI cI cZ cII cIII h0 H.size μ (q) (by first | assumption | omega | exact ⟨by omega, by omega⟩) (by omega)) (cwV 1 hts (gV_G k1508 k1510 ks_yX10_isLeaf k13 k1511) rfl rfl rfl (by decide +kernel) ⟨by show 1 + 1 ≤ _; omega, by show 8 + (2 + 11) + (14) ≤ _; omega⟩) ⟨fun a U g mk q => by obtain ⟨q0, q1, qP, qK⟩ := q; exact ⟨q0, q1, qP, va_K.moved (u := U) (U := U.calling g mk a) (Vm.Alike.refl U.vm) qK⟩, va_recv hK hP (ci := 10) (q0 := 0) rfl ((fw_get (by decide)).trans (by rw [mE_obj]; rfl)), fun U hU hW => ⟨rfl, by rw [hU], by rw [hU]; exact hP, va_K.moved hW.alike hK⟩⟩ rfl rfl hl.1 rfl (lv_room (Nat.le_of_ble_eq_true rfl)) dX10_reach_134 ⟨hRc, hRs⟩) hS (fun q _ h => fA_le hS.1 q h) (fA_le hS.1) (fun r9 u9 t9 H1 locs ht9 hvm9 hw9 hB9 hz9 hk9 hS => ?_)
        obtain ⟨μ4, r5⟩ := u9
        obtain ⟨hP, -⟩ := hB9
        rw [ht9] at hP
        generalize H1 = H at hP hS ⊢
        obtain ⟨e9, hw9⟩ := hw9
        have e9 : r9 = iZ r5 := e9
        subst e9
        simp only at hP hw9
        have hμ4 := hw9; clear hw9
        rw [hμ4.1] at hP; have hμ4 := hμ4.2
        have h1 := hμ4
        have h1b := if_01 hμ4
        refine fz_if_eq (tgt := 172) (by constructor <;> omega) hx hb dX10_reach_137 (by decide) (fun c137_ => ?_) (fun c137_ => ?_)
        · refine lv_iinc (v := iZ (q + 1)) (lv' := [(4, .int (iZ (q + 1))), (3, .int (iZ (an))), (2, .int (iZ (n))), (1, .int (iZ (pp))), (0, .ref h0)]) hx hb dX10_reach_172 hl (k := 0) rfl (iZ_add _ _) (by decide) rfl (fun ls hl => ?_)
          refine lv_goto (tgt := 112) hx hb dX10_reach_175 (by decide) ?_
          exact ih (an) (q + 1) μ H locs ls (by omega) (by first | exact hf | (subst hx; exact fr_uz hf (Or.inr rfl))) (by first | exact hb2 | (subst hx; exact ⟨onB_oth (by decide) (by decide) hb2.1, onB_set (by decide) hb2.2 (Or.inr rfl)⟩)) (by omega) (by omega) hP hS (lv_sub hl [0, 1, 2, 3, 4] rfl)
        · refine lv_aload_n hx hb dX10_reach_140 rfl (lv_at hl 4 rfl) ?_
          refine lv_iload hx hb dX10_reach_141 (lv_at hl 0 rfl) ?_
          refine lv_aload_n hx hb dX10_reach_143 rfl (lv_at hl 4 rfl) ?_
          refine fz_get (D := (dC, dI)) (ci := 10) (v := .ref (h0 + 6)) (C := RX10) (T := TX10) (N := 53) hx hb hts inG10 hown hK hP (k := 0) (by decide) (F := mF h0) mE_obj rfl 14 (by decide) (hts _ k1180) (fun _ h9 => h9) rfl dX10_reach_144 ?_
          refine lv_iload_n hx hb dX10_reach_147 rfl (lv_at hl 3 rfl) ?_
          refine fz_ald (k := 6) (n := 8) (k2 := (7 + (pp).toNat)) hx hb hK hP 2 rfl (by decide) mE_page rfl ⟨by omega, by omega⟩ (by decide) (if_pos (by omega)) dX10_reach_148 ?_
          refine lv_iload_n hx hb dX10_reach_149 rfl (lv_at hl 2 rfl) ?_
          refine fz_ld (k := (7 + (pp).toNat)) (n := 60) hx hb hK hP 0 (by omega) (mE_pageR (by omega)) rfl ⟨by omega, by omega⟩ (by decide) dX10_reach_150 ?_
          refine va_calli (va_runV (As := [.int (iZ (q)), .int (iZ (μ (7 + (pp).toNat) (n).toNat))]) (rest := []) ⟨hx, hb, hml, hown, hts⟩ (m_takes l dC dI cI cZ cII cIII h0 H.size μ (q) (μ (7 + (pp).toNat) (n).toNat) (by first | assumption | omega | exact ⟨by omega, by omega⟩) (by omega) (by omega) (by intro j hj; rw [hf 3 j (by unfold O2; omega)]; exact hsr j hj)) (cwV 2 hts (gV_G k1512 k1514 ks_yX10_takes k13 k1515) rfl rfl rfl (by decide +kernel) ⟨by show 1 + 1 ≤ _; omega, by show 8 + (5 + 11) + (14) ≤ _; omega⟩) ⟨fun a U g mk q => by obtain ⟨q0, q1, qP, qK⟩ := q; exact ⟨q0, q1, qP, va_K.moved (u := U) (U := U.calling g mk a) (Vm.Alike.refl U.vm) qK⟩, va_recv hK hP (ci := 10) (q0 := 0) rfl ((fw_get (by decide)).trans (by rw [mE_obj]; rfl)), fun U hU hW => ⟨rfl, by rw [hU], by rw [hU]; exact hP, va_K.moved hW.alike hK⟩⟩ rfl rfl hl.1 rfl (lv_room (Nat.le_of_ble_eq_true rfl)) dX10_reach_151 ⟨hRc, hRs⟩) hS (fun q _ h => fA_le hS.1 q h) (fA_le hS.1) (fun r9 u9 t9 H1 locs ht9 hvm9 hw9 hB9 hz9 hk9 hS => ?_)
          obtain ⟨μ6, r7⟩ := u9
          obtain ⟨hP, -⟩ := hB9
          rw [ht9] at hP
          generalize H1 = H at hP hS ⊢
          obtain ⟨e9, hw9⟩ := hw9
          have e9 : r9 = iZ r7 := e9
          subst e9
          simp only at hP hw9
          have hμ6 := hw9; clear hw9
          rw [hμ6.1] at hP; have hμ6 := hμ6.2
          have h3b : r7 = 0 ∨ r7 = 1 := by rcases hμ6 with h | h <;> omega
          refine fz_if_ne (tgt := 160) (by constructor <;> omega) hx hb dX10_reach_154 (by decide) (fun c154_ => ?_) (fun c154_ => ?_)
          · refine lv_aload_n hx hb dX10_reach_160 rfl (lv_at hl 4 rfl) ?_
            refine fz_get (D := (dC, dI)) (ci := 10) (v := .ref (h0 + 6318)) (C := RX10) (T := TX10) (N := 53) hx hb hts inG10 hown hK hP (k := 0) (by decide) (F := mF h0) mE_obj rfl 46 (by decide) (hts _ k1212) (fun _ h9 => h9) rfl dX10_reach_161 ?_
            refine lv_iload hx hb dX10_reach_164 (lv_at hl 0 rfl) ?_
            refine lv_iconst (v := iZ 1) hx hb dX10_reach_166 rfl ?_
            refine lv_iadd hx hb dX10_reach_167 ?_
            refine lv_topi (fun x9 ex9 => ?_)
            obtain rfl : x9 = iZ (q + 1) := ex9.trans (iZ_add _ _)
            refine lv_iconst (v := iZ 1) hx hb dX10_reach_168 rfl ?_
            refine fz_zst (k := 6318) (n := 1900) (i := (q + 1)) (z := 1) hx hb hK hP fA_in hS 1 (by decide) mE_isNext rfl ⟨by omega, by omega⟩ (by decide) (by decide) dX10_reach_169 (fun H locs hP hS => ?_)
            obtain ⟨μ8, eμ8⟩ : ∃ x : va_M, x = uz μ 6318 (q + 1).toNat (1) := ⟨_, rfl⟩
            rw [← eμ8] at hP
            refine lv_iconst (v := iZ 1) hx hb dX10_reach_170 rfl ?_
            refine lv_istore_n (lv' := [(3, .int (iZ (1))), (4, .int (iZ (q))), (2, .int (iZ (n))), (1, .int (iZ (pp))), (0, .ref h0)]) hx hb dX10_reach_171 rfl hl (by decide) rfl (fun ls hl => ?_)
            refine lv_iinc (v := iZ (q + 1)) (lv' := [(4, .int (iZ (q + 1))), (3, .int (iZ (1))), (2, .int (iZ (n))), (1, .int (iZ (pp))), (0, .ref h0)]) hx hb dX10_reach_172 hl (k := 1) rfl (iZ_add _ _) (by decide) rfl (fun ls hl => ?_)
            refine lv_goto (tgt := 112) hx hb dX10_reach_175 (by decide) ?_
            exact ih (1) (q + 1) μ8 H locs ls (by omega) (by first | exact hf | (subst eμ8; exact fr_uz hf (Or.inr rfl))) (by first | exact hb2 | (subst eμ8; exact ⟨onB_oth (by decide) (by decide) hb2.1, onB_set (by decide) hb2.2 (Or.inr rfl)⟩)) (by omega) (by omega) hP hS (lv_sub hl [0, 1, 2, 3, 4] rfl)
          · refine lv_goto (tgt := 172) hx hb dX10_reach_157 (by decide) ?_
            refine lv_iinc (v := iZ (q + 1)) (lv' := [(4, .int (iZ (q + 1))), (3, .int (iZ (an))), (2, .int (iZ (n))), (1, .int (iZ (pp))), (0, .ref h0)]) hx hb dX10_reach_172 hl (k := 0) rfl (iZ_add _ _) (by decide) rfl (fun ls hl => ?_)
            refine lv_goto (tgt := 112) hx hb dX10_reach_175 (by decide) ?_
            exact ih (an) (q + 1) μ H locs ls (by omega) (by first | exact hf | (subst hx; exact fr_uz hf (Or.inr rfl))) (by first | exact hb2 | (subst hx; exact ⟨onB_oth (by decide) (by decide) hb2.1, onB_set (by decide) hb2.2 (Or.inr rfl)⟩)) (by omega) (by omega) hP hS (lv_sub hl [0, 1, 2, 3, 4] rfl)
set_option maxHeartbeats 4000000 in
set_option maxRecDepth 100000 in
theorem LX10_reach_187 {p : Program} {l : Launch} {e : Env} {R : Room} {s : State} {m : MethodId} {args : Array Value} {below : List Frame} {meth : Method} {c : Code} {cells slots : Nat} {Q : State → Prop} {dC : Nat → ClassId} {dI : Nat → Nat → Nat} {h0 : Nat} {cI cZ cII cIII : ClassId} (hx : p.tables.exec = Jvm.exec) (hb : c.code = cX10_reach) (hml : c.maxLocals = 5) (hown : s.vm.findClass RX10 = some m.cls) (hts : ∀ w ∈ wsG, w.before args s = true) (hK : va_K (dC, dI) vwCl (mT cI cZ cII cIII) s) (hRf : 5 ≤ R.frames) (hRl : 100 ≤ R.locals) (hRc : cells ≤ R.cells) (hRs : slots ≤ R.slots) (μ0 : va_M) (pp : Int) (n : Int) (hO : stOK μ0) (hexit216 : ∀ (q : Int) (μ : va_M) (H : Heap) (locs : List Loc) (ls : Array Slot), (fr O2 μ0 μ) → (onB μ 6317) → va_P (dC, dI) vwCl (fw (mE cI cZ cII cIII h0) h0 6325 μ) H → va_S (fA h0 6325 s.heap.size) s.heap H locs → lv_has ls 5 [(2, .int (iZ (n))), (1, .int (iZ (pp))), (0, .ref h0)] → W p l e R s m args below meth c H locs cells slots Q (F0 m 216 ls [])) :
    ∀ (n9 : Nat) (q : Int) (μ : va_M) (H : Heap) (locs : List Loc) (ls : Array Slot), (0 ≤ q ∧ q ≤ μ0 0 39 + 1) → (fr O2 μ0 μ) → (onB μ 6317 ∧ onB μ 6318) → (2000 - q).toNat < n9 → va_P (dC, dI) vwCl (fw (mE cI cZ cII cIII h0) h0 6325 μ) H → va_S (fA h0 6325 s.heap.size) s.heap H locs → lv_has ls 5 [(4, .int (iZ (q))), (2, .int (iZ (n))), (1, .int (iZ (pp))), (0, .ref h0)] → W p l e R s m args below meth c H locs cells slots Q (F0 m 187 ls []) := by
  intro n9
  induction n9 with
  | zero => intro q μ H locs ls hq hf hb2 hm9 hP hS hl; exact absurd hm9 (Nat.not_lt_zero _)
  | succ n9 ih =>
    intro q μ H locs ls hq hf hb2 hm9 hP hS hl
    have e39 : μ 0 39 = μ0 0 39 := hf 0 39 (by unfold O2; omega)
    have hO1 := stOK_O2 hO hf
    have hb1_ := hO.1
    have hb2_ := hO.2.1
    refine lv_iload hx hb dX10_reach_187 (lv_at hl 0 rfl) ?_
    refine lv_aload_n hx hb dX10_reach_189 rfl (lv_at hl 3 rfl) ?_
    refine fz_get (D := (dC, dI)) (ci := 10) (v := .int (iZ (μ 0 39))) (C := RX10) (T := TX10) (N := 53) hx hb hts inG10 hown hK hP (k := 0) (by decide) (F := mF h0) mE_obj rfl 39 (by decide) (hts _ k1205) (fun _ h9 => h9) rfl dX10_reach_190 ?_
    refine fz_icmp_gt (tgt := 216) (by constructor <;> omega) (by constructor <;> omega) hx hb dX10_reach_193 (by decide) (fun c193_ => ?_) (fun c193_ => ?_)
    · exact hexit216 (q) μ H locs ls (by exact hf) (by exact hb2.1) hP hS (lv_sub hl [1, 2, 3] rfl)
    · have hbq := hb2.2 q.toNat (by omega)
      refine lv_aload_n hx hb dX10_reach_196 rfl (lv_at hl 3 rfl) ?_
      refine fz_get (D := (dC, dI)) (ci := 10) (v := .ref (h0 + 6317)) (C := RX10) (T := TX10) (N := 53) hx hb hts inG10 hown hK hP (k := 0) (by decide) (F := mF h0) mE_obj rfl 45 (by decide) (hts _ k1211) (fun _ h9 => h9) rfl dX10_reach_197 ?_
      refine lv_iload hx hb dX10_reach_200 (lv_at hl 0 rfl) ?_
      refine lv_aload_n hx hb dX10_reach_202 rfl (lv_at hl 3 rfl) ?_
      refine fz_get (D := (dC, dI)) (ci := 10) (v := .ref (h0 + 6318)) (C := RX10) (T := TX10) (N := 53) hx hb hts inG10 hown hK hP (k := 0) (by decide) (F := mF h0) mE_obj rfl 46 (by decide) (hts _ k1212) (fun _ h9 => h9) rfl dX10_reach_203 ?_
      refine lv_iload hx hb dX10_reach_206 (lv_at hl 0 rfl) ?_
      refine fz_zld (k := 6318) (n := 1900) hx hb hK hP 1 (by decide) mE_isNext rfl ⟨by omega, by omega⟩ (by decide) dX10_reach_208 ?_
      refine fz_zst (k := 6317) (n := 1900) (i := q) (z := (μ 6318 (q).toNat)) hx hb hK hP fA_in hS 1 (by decide) mE_isOn rfl ⟨by omega, by omega⟩ (by decide) (by omega) dX10_reach_209 (fun H locs hP hS => ?_)
      obtain ⟨μ10, eμ10⟩ : ∃ x : va_M, x = uz μ 6317 (q).toNat (μ 6318 (q).toNat) := ⟨_, rfl⟩
      rw [← eμ10] at hP
      refine lv_iinc (v := iZ (q + 1)) (lv' := [(4, .int (iZ (q + 1))), (2, .int (iZ (n))), (1, .int (iZ (pp))), (0, .ref h0)]) hx hb dX10_reach_210 hl (k := 0) rfl (iZ_add _ _) (by decide) rfl (fun ls hl => ?_)
      refine lv_goto (tgt := 187) hx hb dX10_reach_213 (by decide) ?_
      exact ih (q + 1) μ10 H locs ls (by omega) (by
                    subst eμ10
                    exact fr_uz hf (Or.inl rfl)) (by
                    subst eμ10
                    exact ⟨onB_set (by decide) hb2.1 (by omega), onB_oth (by decide) (by decide) hb2.2⟩) (by omega) hP hS (lv_sub hl [0, 1, 2, 3] rfl)
set_option maxHeartbeats 4000000 in
set_option maxRecDepth 100000 in
theorem LX10_reach_66 {p : Program} {l : Launch} {e : Env} {R : Room} {s : State} {m : MethodId} {args : Array Value} {below : List Frame} {meth : Method} {c : Code} {cells slots : Nat} {Q : State → Prop} {dC : Nat → ClassId} {dI : Nat → Nat → Nat} {h0 : Nat} {cI cZ cII cIII : ClassId} (hx : p.tables.exec = Jvm.exec) (hb : c.code = cX10_reach) (hml : c.maxLocals = 5) (hown : s.vm.findClass RX10 = some m.cls) (hts : ∀ w ∈ wsG, w.before args s = true) (hK : va_K (dC, dI) vwCl (mT cI cZ cII cIII) s) (hRf : 5 ≤ R.frames) (hRl : 100 ≤ R.locals) (hRc : cells ≤ R.cells) (hRs : slots ≤ R.slots) (μ0 : va_M) (pp : Int) (hO : stOK μ0) (hpp : 0 ≤ pp ∧ pp < 8) (hP : 0 ≤ μ0 15 pp.toNat ∧ μ0 15 pp.toNat ≤ 60) (hsr : ∀ j : Nat, j < 201 → inR (μ0 3 j)) (htk : ∀ k : Nat, (k : Int) < μ0 15 pp.toNat → 0 ≤ μ0 (7 + pp.toNat) k ∧ μ0 (7 + pp.toNat) k < 201) (hexit182 : ∀ (n : Int) (μ : va_M) (H : Heap) (locs : List Loc) (ls : Array Slot), (fr O2 μ0 μ) → va_P (dC, dI) vwCl (fw (mE cI cZ cII cIII h0) h0 6325 μ) H → va_S (fA h0 6325 s.heap.size) s.heap H locs → lv_has ls 5 [(2, .int (iZ (n))), (1, .int (iZ (pp))), (0, .ref h0)] → W p l e R s m args below meth c H locs cells slots Q (F0 m 182 ls [])) (hexit222 : ∀ (n : Int) (μ : va_M) (H : Heap) (locs : List Loc) (ls : Array Slot), (fr O2 μ0 μ) → va_P (dC, dI) vwCl (fw (mE cI cZ cII cIII h0) h0 6325 μ) H → va_S (fA h0 6325 s.heap.size) s.heap H locs → lv_has ls 5 [(2, .int (iZ (n))), (1, .int (iZ (pp))), (0, .ref h0)] → W p l e R s m args below meth c H locs cells slots Q (F0 m 222 ls [])) :
    ∀ (n9 : Nat) (n : Int) (μ : va_M) (H : Heap) (locs : List Loc) (ls : Array Slot), (0 ≤ n ∧ n ≤ μ0 15 pp.toNat) → (fr O2 μ0 μ) → (onB μ 6317) → (100 - n).toNat < n9 → va_P (dC, dI) vwCl (fw (mE cI cZ cII cIII h0) h0 6325 μ) H → va_S (fA h0 6325 s.heap.size) s.heap H locs → lv_has ls 5 [(2, .int (iZ (n))), (1, .int (iZ (pp))), (0, .ref h0)] → W p l e R s m args below meth c H locs cells slots Q (F0 m 66 ls []) := by
  intro n9
  induction n9 with
  | zero => intro n μ H locs ls hn hf hb2 hm9 hP hS hl; exact absurd hm9 (Nat.not_lt_zero _)
  | succ n9 ih =>
    intro n μ H locs ls hn hf hb2 hm9 hP hS hl
    have e39 : μ 0 39 = μ0 0 39 := hf 0 39 (by unfold O2; omega)
    have hO1 := stOK_O2 hO hf
    have hb1_ := hO.1
    have hb2_ := hO.2.1
    have e15 : μ 15 pp.toNat = μ0 15 pp.toNat := hf _ _ (by unfold O2; omega)
    refine lv_iload_n hx hb dX10_reach_66 rfl (lv_at hl 0 rfl) ?_
    refine lv_aload_n hx hb dX10_reach_67 rfl (lv_at hl 2 rfl) ?_
    refine fz_get (D := (dC, dI)) (ci := 10) (v := .ref (h0 + 15)) (C := RX10) (T := TX10) (N := 53) hx hb hts inG10 hown hK hP (k := 0) (by decide) (F := mF h0) mE_obj rfl 15 (by decide) (hts _ k1181) (fun _ h9 => h9) rfl dX10_reach_68 ?_
    refine lv_iload_n hx hb dX10_reach_71 rfl (lv_at hl 1 rfl) ?_
    refine fz_ld (k := 15) (n := 8) hx hb hK hP 0 (by decide) mE_pageLong rfl ⟨by omega, by omega⟩ (by decide) dX10_reach_72 ?_
    refine fz_icmp_ge (tgt := 222) (by constructor <;> omega) (by constructor <;> omega) hx hb dX10_reach_73 (by decide) (fun c73_ => ?_) (fun c73_ => ?_)
    · exact hexit222 (n) μ H locs ls (by exact hf) hP hS (lv_sub hl [0, 1, 2] rfl)
    · refine lv_aload_n hx hb dX10_reach_76 rfl (lv_at hl 2 rfl) ?_
      refine va_calli (va_runV (As := []) (rest := []) ⟨hx, hb, hml, hown, hts⟩ (m_opensOn l dC dI cI cZ cII cIII h0 H.size μ  (by first | assumption | omega | exact ⟨by omega, by omega⟩) (by exact hb2)) (cwV 0 hts (gV_G k1651 k1653 ks_yX10_opensOn k13 k1654) rfl rfl rfl (by decide +kernel) ⟨by show 3 + 1 ≤ _; omega, by show 8 + (4 + 11) + (60) ≤ _; omega⟩) ⟨fun a U g mk q => by obtain ⟨q0, q1, qP, qK⟩ := q; exact ⟨q0, q1, qP, va_K.moved (u := U) (U := U.calling g mk a) (Vm.Alike.refl U.vm) qK⟩, va_recv hK hP (ci := 10) (q0 := 0) rfl ((fw_get (by decide)).trans (by rw [mE_obj]; rfl)), fun U hU hW => ⟨rfl, by rw [hU], by rw [hU]; exact hP, va_K.moved hW.alike hK⟩⟩ rfl rfl hl.1 rfl (lv_room (Nat.le_of_ble_eq_true rfl)) dX10_reach_77 ⟨hRc, hRs⟩) hS (fun q _ h => fA_le hS.1 q h) (fA_le hS.1) (fun r9 u9 t9 H1 locs ht9 hvm9 hw9 hB9 hz9 hk9 hS => ?_)
      obtain ⟨μ11, r12⟩ := u9
      obtain ⟨hP, -⟩ := hB9
      rw [ht9] at hP
      generalize H1 = H at hP hS ⊢
      obtain ⟨e9, hw9⟩ := hw9
      have e9 : r9 = iZ r12 := e9
      subst e9
      simp only at hP hw9
      have hμ11 := hw9; clear hw9
      obtain ⟨v1, v2⟩ := hμ11
      have w1 : fr O2 μ0 μ11 := fr_trans hf (fr_mono v1 (fun x y h => Or.inl h))
      have w39 : μ11 0 39 = μ0 0 39 := w1 0 39 (by unfold O2; omega)
      refine lv_pop hx hb dX10_reach_80 rfl ?_
      refine lv_iconst (v := iZ 0) hx hb dX10_reach_81 rfl ?_
      refine lv_istore_n (lv' := [(3, .int (iZ (0))), (2, .int (iZ (n))), (1, .int (iZ (pp))), (0, .ref h0)]) hx hb dX10_reach_82 rfl hl (by decide) rfl (fun ls hl => ?_)
      refine lv_iconst (v := iZ 0) hx hb dX10_reach_83 rfl ?_
      refine lv_istore (lv' := [(4, .int (iZ (0))), (3, .int (iZ (0))), (2, .int (iZ (n))), (1, .int (iZ (pp))), (0, .ref h0)]) hx hb dX10_reach_84 hl (by decide) rfl (fun ls hl => ?_)
      refine LX10_reach_86 hx hb hml hown hts hK hRf hRl hRc hRs (μ0) (pp) (n) (by assumption) ?_ _ (0) μ11 H locs ls (by omega) (by exact w1) (by exact v2) (by intro x hx; omega) (Nat.lt_succ_self _) hP hS (lv_sub hl [0, 1, 2, 3, 4] rfl)
      · intro q_13 μ13_ H locs ls q3_13 q4_13 hP hS hl
        have hl : lv_has ls 5 [(3, .int (iZ (0))), (2, .int (iZ (n))), (1, .int (iZ (pp))), (0, .ref h0)] := hl
        refine lv_iconst (v := iZ 0) hx hb dX10_reach_109 rfl ?_
        refine lv_istore (lv' := [(4, .int (iZ (0))), (3, .int (iZ (0))), (2, .int (iZ (n))), (1, .int (iZ (pp))), (0, .ref h0)]) hx hb dX10_reach_110 hl (by decide) rfl (fun ls hl => ?_)
        refine LX10_reach_112 hx hb hml hown hts hK hRf hRl hRc hRs (μ0) (pp) (n) (by assumption) (by assumption) (by omega) (by assumption) (by exact htk n.toNat (by omega)) ?_ _ (0) (0) μ13_ H locs ls (by omega) (by exact q3_13) (by exact q4_13) (by omega) (Nat.lt_succ_self _) hP hS (lv_sub hl [0, 1, 2, 3, 4] rfl)
        · intro an_14 q_14 μ14_ H locs ls q5_14 q6_14 q7_14 hP hS hl
          have hl : lv_has ls 5 [(3, .int (iZ (an_14))), (2, .int (iZ (n))), (1, .int (iZ (pp))), (0, .ref h0)] := hl
          refine lv_iload_n hx hb dX10_reach_178 rfl (lv_at hl 0 rfl) ?_
          refine fz_if_ne (tgt := 184) (by constructor <;> omega) hx hb dX10_reach_179 (by decide) (fun c179_ => ?_) (fun c179_ => ?_)
          · refine lv_iconst (v := iZ 0) hx hb dX10_reach_184 rfl ?_
            refine lv_istore (lv' := [(4, .int (iZ (0))), (3, .int (iZ (an_14))), (2, .int (iZ (n))), (1, .int (iZ (pp))), (0, .ref h0)]) hx hb dX10_reach_185 hl (by decide) rfl (fun ls hl => ?_)
            refine LX10_reach_187 hx hb hml hown hts hK hRf hRl hRc hRs (μ0) (pp) (n) (by assumption) ?_ _ (0) μ14_ H locs ls (by omega) (by exact q5_14) (by exact q6_14) (Nat.lt_succ_self _) hP hS (lv_sub hl [0, 2, 3, 4] rfl)
            · intro q_15 μ15_ H locs ls q8_15 q9_15 hP hS hl
              have hl : lv_has ls 5 [(2, .int (iZ (n))), (1, .int (iZ (pp))), (0, .ref h0)] := hl
              refine lv_iinc (v := iZ (n + 1)) (lv' := [(2, .int (iZ (n + 1))), (1, .int (iZ (pp))), (0, .ref h0)]) hx hb dX10_reach_216 hl (k := 0) rfl (iZ_add _ _) (by decide) rfl (fun ls hl => ?_)
              refine lv_goto (tgt := 66) hx hb dX10_reach_219 (by decide) ?_
              exact ih (n + 1) μ15_ H locs ls (by omega) (by exact q8_15) (by exact q9_15) (by omega) hP hS (lv_sub hl [0, 1, 2] rfl)
          · exact hexit182 (n) μ14_ H locs ls (by exact q5_14) hP hS (lv_sub hl [1, 2, 3] rfl)
set_option maxHeartbeats 4000000 in
set_option maxRecDepth 100000 in
theorem m_reach (l : Launch) (dC : Nat → ClassId) (dI : Nat → Nat → Nat) (cI cZ cII cIII : ClassId) (h0 sz : Nat) (μ : va_M) (pp : Int) (hQ : RQ μ) (hp : inR pp) : Met l yX10_reach (Cond.code yX10_reach cX10_reach 5 (some .int) :: wsG) ({ frames := 5, cells := 0, slots := 0, locals := 100 } : Room) (va_Pc [.ref h0, .int (iZ (pp))] (fun U => U.heap.size = sz ∧ va_P (dC, dI) vwCl (fw (mE cI cZ cII cIII h0) h0 6325 μ) U.heap ∧ va_K (dC, dI) vwCl (mT cI cZ cII cIII) U)) (va_Qi (fun (r9 : Int32) (u : va_M × Int) => r9 = iZ u.2 ∧ (fun (u : va_M) (r : Int) => fr PS μ u ∧ (u 0 0 = 0 ∨ u 0 0 = 1 ∨ u 0 0 = 2)) u.1 u.2) (fun u t => va_P (dC, dI) vwCl (fw (mE cI cZ cII cIII h0) h0 6325 u.1) t.heap ∧ va_K (dC, dI) vwCl (mT cI cZ cII cIII) t) (fA h0 6325 sz)) 0 0 (fA h0 6325 sz) := by
  refine Met.ofW (cc := cX10_reach) (maxL := 5) (ret := (some .int)) (by decide) rfl ?_
  intro p e s m args below meth c s₁ B hml hv
  obtain ⟨rfl, hsz, hP, hK⟩ := hv
  have hx := B.exec
  have hb := B.bytes
  have hr := B.returns
  have hts : ∀ w ∈ wsG, w.before _ s = true := hG_of (atoms_spec (ws := (Cond.code yX10_reach cX10_reach 5 (some .int) :: wsG)) B.pre)
  have hown : s.vm.findClass RX10 = some m.cls := findClass_of_methodNamed B.named
  have hlocks := B.notSynchronized
  subst hsz
  have hS : va_S (fA h0 6325 s.heap.size) s.heap s.heap [] := va_S.rf
  have hl := lv_entry ([.ref h0, .int (iZ (pp))]) (n := 5) (Nat.le_of_ble_eq_true rfl)
  rw [lg_entry_eq]
  generalize (lg_sl ([.ref h0, .int (iZ (pp))]) ++ List.replicate (5 - (lg_sl ([.ref h0, .int (iZ (pp))])).length) Slot.unset).toArray = ls at hl ⊢
  have hl : lv_has ls 5 [(0, .ref h0), (1, .int (iZ (pp)))] := hl
  refine lv_aload_n hx hb dX10_reach_0 rfl (lv_at hl 0 rfl) ?_
  refine lv_iconst (v := iZ 0) hx hb dX10_reach_1 rfl ?_
  refine fz_put (D := (dC, dI)) (ci := 10) (ty := .int) (z := 0) (C := RX10) (T := TX10) (N := 53) hx hb hts inG10 tyX10 tyX10_ok nmX10 hown hK hP fA_in hS (k := 0) (by decide) (F := mF h0) mE_obj rfl 0 (by decide) (hts _ k1166) (fun _ h9 => h9) rfl (by decide +kernel) rfl rfl (fun _ => Nat.le_of_ble_eq_true rfl) (fun _ _ => rfl) dX10_reach_2 (fun H locs hP hS => ?_)
  obtain ⟨μ16, eμ16⟩ : ∃ x : va_M, x = uz μ 0 0 (0) := ⟨_, rfl⟩
  rw [← eμ16] at hP
  have hfr : fr PS μ μ16 := by rw [eμ16]; exact fr_uz fr_rfl (by unfold PS; omega)
  have ht0 : μ16 0 0 = 0 := by rw [eμ16, uz_s]
  have e10 := hfr 0 10 (PS_n (by omega))
  have e9 := hfr 0 9 (PS_n (by omega))
  have e71 := hfr 719 0 (PS_n (by omega))
  have hQ1 := RQ_fr hQ hfr
  have hQc := hQ
  obtain ⟨f10, ⟨fT, fTb, fTw⟩, fS3, fPg, fw9, fwB, fwT⟩ := hQc
  obtain ⟨g10, ⟨gT, gTb, gTw⟩, gS3, gPg, gw, gwB, gwT⟩ := hQ1
  have gtk := TR_tok gwT gwB.1 gwB.2.1
  have gt1 := gtk.1
  have gt2 := gtk.2.1
  refine lv_aload_n hx hb dX10_reach_5 rfl (lv_at hl 0 rfl) ?_
  refine lv_aload_n hx hb dX10_reach_6 rfl (lv_at hl 0 rfl) ?_
  refine lv_iload_n hx hb dX10_reach_7 rfl (lv_at hl 1 rfl) ?_
  refine va_calli (va_runV (As := [.int (iZ (pp))]) (rest := [.ref h0]) ⟨hx, hb, hml, hown, hts⟩ (m_isPage l dC dI cI cZ cII cIII h0 H.size μ16 (pp) (by first | assumption | omega | exact ⟨by omega, by omega⟩) (by first | assumption | omega | exact ⟨by omega, by omega⟩)) (cwV 1 hts (gV_G k1584 k1586 ks_yX10_isPage k13 k1587) rfl rfl rfl (by decide +kernel) ⟨Nat.le_of_ble_eq_true rfl, Nat.le_of_ble_eq_true rfl⟩) ⟨fun a U g mk q => by obtain ⟨q0, q1, qP, qK⟩ := q; exact ⟨q0, q1, qP, va_K.moved (u := U) (U := U.calling g mk a) (Vm.Alike.refl U.vm) qK⟩, va_recv hK hP (ci := 10) (q0 := 0) rfl ((fw_get (by decide)).trans (by rw [mE_obj]; rfl)), fun U hU hW => ⟨rfl, by rw [hU], by rw [hU]; exact hP, va_K.moved hW.alike hK⟩⟩ rfl rfl hl.1 rfl (lv_room (Nat.le_of_ble_eq_true rfl)) dX10_reach_8 ⟨Nat.le_of_ble_eq_true rfl, Nat.le_of_ble_eq_true rfl⟩) hS (fun q _ h => fA_le hS.1 q h) (fA_le hS.1) (fun r9 u9 t9 H1 locs ht9 hvm9 hw9 hB9 hz9 hk9 hS => ?_)
  obtain ⟨μ17, r18⟩ := u9
  obtain ⟨hP, -⟩ := hB9
  rw [ht9] at hP
  generalize H1 = H at hP hS ⊢
  obtain ⟨e9, hw9⟩ := hw9
  have e9 : r9 = iZ r18 := e9
  subst e9
  simp only at hP hw9
  have hμ17 := hw9; clear hw9
  rw [hμ17.1] at hP; have hμ17 := hμ17.2
  have hip := hμ17
  have hip2 := if_01 hμ17
  refine fz_if_ne (tgt := 18) (by constructor <;> omega) hx hb dX10_reach_11 (by decide) (fun c11_ => ?_) (fun c11_ => ?_)
  · have hpp := if_get hip (by omega)
    refine lv_iconst (v := iZ 0) hx hb dX10_reach_18 rfl ?_
    refine lv_iconst (v := iZ 1) hx hb dX10_reach_19 rfl ?_
    refine lv_iconst (v := iZ 0) hx hb dX10_reach_20 rfl ?_
    refine va_calli (va_runV (As := [.int (iZ (0)), .int (iZ (1)), .int (iZ (0))]) (rest := []) ⟨hx, hb, hml, hown, hts⟩ (m_bad2 l dC dI cI cZ cII cIII h0 H.size μ16 (0) (1) (0) (by first | assumption | omega | exact ⟨by omega, by omega⟩) (by first | assumption | omega | exact ⟨by omega, by omega⟩) (by first | assumption | omega | exact ⟨by omega, by omega⟩) (by first | assumption | omega | exact ⟨by omega, by omega⟩)) (cwV 3 hts (gV_G k1338 k1340 ks_yX10_bad k13 k1341) rfl rfl rfl (by decide +kernel) ⟨Nat.le_of_ble_eq_true rfl, Nat.le_of_ble_eq_true rfl⟩) ⟨fun a U g mk q => by obtain ⟨q0, q1, qP, qK⟩ := q; exact ⟨q0, q1, qP, va_K.moved (u := U) (U := U.calling g mk a) (Vm.Alike.refl U.vm) qK⟩, va_recv hK hP (ci := 10) (q0 := 0) rfl ((fw_get (by decide)).trans (by rw [mE_obj]; rfl)), fun U hU hW => ⟨rfl, by rw [hU], by rw [hU]; exact hP, va_K.moved hW.alike hK⟩⟩ rfl rfl hl.1 rfl (lv_room (Nat.le_of_ble_eq_true rfl)) dX10_reach_21 ⟨Nat.le_of_ble_eq_true rfl, Nat.le_of_ble_eq_true rfl⟩) hS (fun q _ h => fA_le hS.1 q h) (fA_le hS.1) (fun r9 u9 t9 H1 locs ht9 hvm9 hw9 hB9 hz9 hk9 hS => ?_)
    obtain ⟨μ19, r20⟩ := u9
    obtain ⟨hP, -⟩ := hB9
    rw [ht9] at hP
    generalize H1 = H at hP hS ⊢
    obtain ⟨e9, hw9⟩ := hw9
    have e9 : r9 = iZ r20 := e9
    subst e9
    simp only at hP hw9
    have hμ19 := hw9; clear hw9
    have hfr := fr_trans hfr (badP_fr hμ19)
    have hrb := badP_r hμ19
    obtain rfl : r20 = 0 := by omega
    refine fz_if_eq (tgt := 29) (by decide) hx hb dX10_reach_24 (by decide) (fun c24_ => ?_) (fun h9 => absurd h9 (by decide))
    have hQ2 := RQ_fr hQ hfr
    obtain ⟨k10, ⟨kT, kTb, kTw⟩, kS3, kPg, kw, kwB, kwT⟩ := hQ2
    have e10k := hfr 0 10 (PS_n (by omega))
    have e9k := hfr 0 9 (PS_n (by omega))
    have e71k := hfr 719 0 (PS_n (by omega))
    have ktk := TR_tok kwT kwB.1 kwB.2.1
    have kt1 := ktk.1
    have kt2 := ktk.2.1
    obtain ⟨p1, p2, p3, pw, pw1, pw2, pw3⟩ := kPg pp.toNat (by omega)
    have kT1 := kTb.1
    have kT2 := kTb.2.1
    refine lv_aload_n hx hb dX10_reach_29 rfl (lv_at hl 0 rfl) ?_
    refine va_callv (va_runV (As := []) (rest := []) ⟨hx, hb, hml, hown, hts⟩ (m_laysStates l dC dI cI cZ cII cIII h0 H.size μ19 (kw) (by exact kwT) (by exact kwB.1) (by exact kwB.2.1)) (cwV 0 hts (gV_G k1504 k1506 ks_yX10_laysStates k13 k1507) rfl rfl rfl (by decide +kernel) ⟨Nat.le_of_ble_eq_true rfl, Nat.le_of_ble_eq_true rfl⟩) ⟨fun a U g mk q => by obtain ⟨q0, q1, qP, qK⟩ := q; exact ⟨q0, q1, qP, va_K.moved (u := U) (U := U.calling g mk a) (Vm.Alike.refl U.vm) qK⟩, va_recv hK hP (ci := 10) (q0 := 0) rfl ((fw_get (by decide)).trans (by rw [mE_obj]; rfl)), fun U hU hW => ⟨rfl, by rw [hU], by rw [hU]; exact hP, va_K.moved hW.alike hK⟩⟩ rfl rfl hl.1 rfl (lv_room (Nat.le_of_ble_eq_true rfl)) dX10_reach_30 ⟨Nat.le_of_ble_eq_true rfl, Nat.le_of_ble_eq_true rfl⟩) hS (fun q _ h => fA_le hS.1 q h) (fA_le hS.1) (fun u9 t9 H1 locs ht9 hvm9 hw9 hB9 hz9 hk9 hS => ?_)
    obtain ⟨hP, -⟩ := hB9
    rw [ht9] at hP
    generalize H1 = H at hP hS ⊢
    obtain ⟨μa, eμa⟩ : ∃ x : va_M, x = u9 := ⟨_, rfl⟩
    rw [← eμa] at hP hw9
    have hμa := hw9; clear hw9
    obtain ⟨s1, s2, s3⟩ := hμa
    have hTa : TR μa 0 kw := TR_fr kwT s1 (fun x => by unfold SF; omega) (by unfold SF; omega)
    have hOa := stOK_of hTa kwB.1 kwB.2.1 s2 s3
    have s15 : μa 15 pp.toNat = _ := s1 _ _ (by unfold SF; omega)
    have oa1 := hOa.1
    refine lv_iconst (v := iZ 0) hx hb dX10_reach_33 rfl ?_
    refine lv_istore_n (lv' := [(2, .int (iZ (0))), (0, .ref h0), (1, .int (iZ (pp)))]) hx hb dX10_reach_34 rfl hl (by decide) rfl (fun ls hl => ?_)
    refine LX10_reach_35 hx hb hml hown hts hK (Nat.le_of_ble_eq_true rfl) (Nat.le_of_ble_eq_true rfl) (Nat.le_of_ble_eq_true rfl) (Nat.le_of_ble_eq_true rfl) (μa) (pp) (by exact hOa) ?_ _ (0) μa H locs ls (by omega) (by exact fr_rfl) (by intro x hx; omega) (Nat.lt_succ_self _) hP hS (lv_sub hl [0, 2, 1] rfl)
    · intro q_21 μ21_ H locs ls q1_21 q2_21 hP hS hl
      have hl : lv_has ls 5 [(1, .int (iZ (pp))), (0, .ref h0)] := hl
      have k15 : μ21_ 15 pp.toNat = _ := q1_21 15 _ (by unfold O2; omega)
      have hOb := stOK_O2 hOa q1_21
      refine lv_iconst (v := iZ 0) hx hb dX10_reach_64 rfl ?_
      refine lv_istore_n (lv' := [(2, .int (iZ (0))), (1, .int (iZ (pp))), (0, .ref h0)]) hx hb dX10_reach_65 rfl hl (by decide) rfl (fun ls hl => ?_)
      refine LX10_reach_66 hx hb hml hown hts hK (Nat.le_of_ble_eq_true rfl) (Nat.le_of_ble_eq_true rfl) (Nat.le_of_ble_eq_true rfl) (Nat.le_of_ble_eq_true rfl) (μ21_) (pp) (by exact hOb) (by omega) (by omega) (by intro j hj; rw [q1_21 _ _ (by unfold O2; omega), s1 _ _ (by unfold SF; omega)]; exact kS3 j hj) (by intro k hk; rw [q1_21 _ _ (by unfold O2; omega), s1 _ _ (by unfold SF; omega)]; have := p3 k (by omega); omega) ?_ ?_ _ (0) μ21_ H locs ls (by omega) (by exact fr_rfl) (by exact q2_21) (Nat.lt_succ_self _) hP hS (lv_sub hl [0, 1, 2] rfl)
      · intro n_22 μ22_ H locs ls qB_22 hP hS hl
        have hl : lv_has ls 5 [(2, .int (iZ (n_22))), (1, .int (iZ (pp))), (0, .ref h0)] := hl
        refine lv_iload_n hx hb dX10_reach_182 rfl (lv_at hl 0 rfl) ?_
        exact W.iret (v := iZ (n_22)) hx hb hr (fun t9 ht9 hW9 => ⟨⟨iZ (n_22), (μ22_, n_22), rfl, ⟨rfl, (by
                        dsimp only
                        have ff := fr_trans (fr_mono s1 (fun _ _ h => SF_PS h)) (fr_trans (fr_mono q1_21 (fun _ _ h => O2_PS h)) (fr_mono qB_22 (fun _ _ h => O2_PS h)))
                        have e00 := (qB_22 0 0 (by unfold O2; omega)).trans ((q1_21 0 0 (by unfold O2; omega)).trans (s1 0 0 (by unfold SF; omega)))
                        exact ⟨fr_trans hfr ff, by omega⟩)⟩, by rw [ht9]; exact hP, va_K.moved hW9.alike hK⟩, hS.F ht9⟩) hS.2.2 dX10_reach_183
      · intro n_23 μ23_ H locs ls qA_23 hP hS hl
        have hl : lv_has ls 5 [(2, .int (iZ (n_23))), (1, .int (iZ (pp))), (0, .ref h0)] := hl
        refine lv_iload_n hx hb dX10_reach_222 rfl (lv_at hl 0 rfl) ?_
        exact W.iret (v := iZ (n_23)) hx hb hr (fun t9 ht9 hW9 => ⟨⟨iZ (n_23), (μ23_, n_23), rfl, ⟨rfl, (by
                        dsimp only
                        have ff := fr_trans (fr_mono s1 (fun _ _ h => SF_PS h)) (fr_trans (fr_mono q1_21 (fun _ _ h => O2_PS h)) (fr_mono qA_23 (fun _ _ h => O2_PS h)))
                        have e00 := (qA_23 0 0 (by unfold O2; omega)).trans ((q1_21 0 0 (by unfold O2; omega)).trans (s1 0 0 (by unfold SF; omega)))
                        exact ⟨fr_trans hfr ff, by omega⟩)⟩, by rw [ht9]; exact hP, va_K.moved hW9.alike hK⟩, hS.F ht9⟩) hS.2.2 dX10_reach_223
  · refine lv_iconst (v := iZ 1) hx hb dX10_reach_14 rfl ?_
    refine lv_goto (tgt := 19) hx hb dX10_reach_15 (by decide) ?_
    refine lv_iconst (v := iZ 1) hx hb dX10_reach_19 rfl ?_
    refine lv_iconst (v := iZ 0) hx hb dX10_reach_20 rfl ?_
    refine va_calli (va_runV (As := [.int (iZ (1)), .int (iZ (1)), .int (iZ (0))]) (rest := []) ⟨hx, hb, hml, hown, hts⟩ (m_bad2 l dC dI cI cZ cII cIII h0 H.size μ16 (1) (1) (0) (by first | assumption | omega | exact ⟨by omega, by omega⟩) (by first | assumption | omega | exact ⟨by omega, by omega⟩) (by first | assumption | omega | exact ⟨by omega, by omega⟩) (by first | assumption | omega | exact ⟨by omega, by omega⟩)) (cwV 3 hts (gV_G k1338 k1340 ks_yX10_bad k13 k1341) rfl rfl rfl (by decide +kernel) ⟨Nat.le_of_ble_eq_true rfl, Nat.le_of_ble_eq_true rfl⟩) ⟨fun a U g mk q => by obtain ⟨q0, q1, qP, qK⟩ := q; exact ⟨q0, q1, qP, va_K.moved (u := U) (U := U.calling g mk a) (Vm.Alike.refl U.vm) qK⟩, va_recv hK hP (ci := 10) (q0 := 0) rfl ((fw_get (by decide)).trans (by rw [mE_obj]; rfl)), fun U hU hW => ⟨rfl, by rw [hU], by rw [hU]; exact hP, va_K.moved hW.alike hK⟩⟩ rfl rfl hl.1 rfl (lv_room (Nat.le_of_ble_eq_true rfl)) dX10_reach_21 ⟨Nat.le_of_ble_eq_true rfl, Nat.le_of_ble_eq_true rfl⟩) hS (fun q _ h => fA_le hS.1 q h) (fA_le hS.1) (fun r9 u9 t9 H1 locs ht9 hvm9 hw9 hB9 hz9 hk9 hS => ?_)
    obtain ⟨μ24, r25⟩ := u9
    obtain ⟨hP, -⟩ := hB9
    rw [ht9] at hP
    generalize H1 = H at hP hS ⊢
    obtain ⟨e9, hw9⟩ := hw9
    have e9 : r9 = iZ r25 := e9
    subst e9
    simp only at hP hw9
    have hμ24 := hw9; clear hw9
    have hfr := fr_trans hfr (badP_fr hμ24)
    have hrb := badP_r hμ24
    obtain rfl : r25 = 1 := by omega
    refine fz_if_eq (tgt := 29) (by decide) hx hb dX10_reach_24 (by decide) (fun h9 => absurd h9 (by decide)) (fun c24_ => ?_)
    refine lv_iconst (v := iZ 0) hx hb dX10_reach_27 rfl ?_
    exact W.iret (v := iZ (0)) hx hb hr (fun t9 ht9 hW9 => ⟨⟨iZ (0), (μ24, 0), rfl, ⟨rfl, (by
                dsimp only
                exact ⟨hfr, by omega⟩)⟩, by rw [ht9]; exact hP, va_K.moved hW9.alike hK⟩, hS.F ht9⟩) hS.2.2 dX10_reach_28

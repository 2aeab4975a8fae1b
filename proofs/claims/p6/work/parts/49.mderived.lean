theorem dX10_derived_0 : decode cX10_derived 0 = .ok (.aload_n 0, 1) := by decide +kernel
theorem dX10_derived_1 : decode cX10_derived 1 = .ok (.iconst 0, 1) := by decide +kernel
theorem dX10_derived_2 : decode cX10_derived 2 = .ok (.putfield 127, 3) := by decide +kernel
theorem dX10_derived_5 : decode cX10_derived 5 = .ok (.aload_n 0, 1) := by decide +kernel
theorem dX10_derived_6 : decode cX10_derived 6 = .ok (.iload_n 1, 1) := by decide +kernel
theorem dX10_derived_7 : decode cX10_derived 7 = .ok (.iconst 0, 1) := by decide +kernel
theorem dX10_derived_8 : decode cX10_derived 8 = .ok (.bipush 60, 2) := by decide +kernel
theorem dX10_derived_10 : decode cX10_derived 10 = .ok (.invokestatic 173, 3) := by decide +kernel
theorem dX10_derived_13 : decode cX10_derived 13 = .ok (.ifCond .ne 7, 3) := by decide +kernel
theorem dX10_derived_16 : decode cX10_derived 16 = .ok (.iconst 1, 1) := by decide +kernel
theorem dX10_derived_17 : decode cX10_derived 17 = .ok (.goto 4, 3) := by decide +kernel
theorem dX10_derived_20 : decode cX10_derived 20 = .ok (.iconst 0, 1) := by decide +kernel
theorem dX10_derived_21 : decode cX10_derived 21 = .ok (.iconst 1, 1) := by decide +kernel
theorem dX10_derived_22 : decode cX10_derived 22 = .ok (.iconst 1, 1) := by decide +kernel
theorem dX10_derived_23 : decode cX10_derived 23 = .ok (.invokevirtual 177, 3) := by decide +kernel
theorem dX10_derived_26 : decode cX10_derived 26 = .ok (.ifCond .eq 5, 3) := by decide +kernel
theorem dX10_derived_29 : decode cX10_derived 29 = .ok (.iconst 0, 1) := by decide +kernel
theorem dX10_derived_30 : decode cX10_derived 30 = .ok (.ireturn, 1) := by decide +kernel
theorem dX10_derived_31 : decode cX10_derived 31 = .ok (.aload_n 0, 1) := by decide +kernel
theorem dX10_derived_32 : decode cX10_derived 32 = .ok (.invokevirtual 380, 3) := by decide +kernel
theorem dX10_derived_35 : decode cX10_derived 35 = .ok (.iconst 0, 1) := by decide +kernel
theorem dX10_derived_36 : decode cX10_derived 36 = .ok (.istore_n 2, 1) := by decide +kernel
theorem dX10_derived_37 : decode cX10_derived 37 = .ok (.iload_n 2, 1) := by decide +kernel
theorem dX10_derived_38 : decode cX10_derived 38 = .ok (.iload_n 1, 1) := by decide +kernel
theorem dX10_derived_39 : decode cX10_derived 39 = .ok (.if_icmp .gt 147, 3) := by decide +kernel
theorem dX10_derived_42 : decode cX10_derived 42 = .ok (.iconst 0, 1) := by decide +kernel
theorem dX10_derived_43 : decode cX10_derived 43 = .ok (.istore_n 3, 1) := by decide +kernel
theorem dX10_derived_44 : decode cX10_derived 44 = .ok (.iload_n 3, 1) := by decide +kernel
theorem dX10_derived_45 : decode cX10_derived 45 = .ok (.aload_n 0, 1) := by decide +kernel
theorem dX10_derived_46 : decode cX10_derived 46 = .ok (.getfield 367, 3) := by decide +kernel
theorem dX10_derived_49 : decode cX10_derived 49 = .ok (.if_icmp .gt 18, 3) := by decide +kernel
theorem dX10_derived_52 : decode cX10_derived 52 = .ok (.aload_n 0, 1) := by decide +kernel
theorem dX10_derived_53 : decode cX10_derived 53 = .ok (.getfield 97, 3) := by decide +kernel
theorem dX10_derived_56 : decode cX10_derived 56 = .ok (.iload_n 3, 1) := by decide +kernel
theorem dX10_derived_57 : decode cX10_derived 57 = .ok (.aaload, 1) := by decide +kernel
theorem dX10_derived_58 : decode cX10_derived 58 = .ok (.iload_n 2, 1) := by decide +kernel
theorem dX10_derived_59 : decode cX10_derived 59 = .ok (.iconst 0, 1) := by decide +kernel
theorem dX10_derived_60 : decode cX10_derived 60 = .ok (.iastore, 1) := by decide +kernel
theorem dX10_derived_61 : decode cX10_derived 61 = .ok (.iinc 3 1, 3) := by decide +kernel
theorem dX10_derived_64 : decode cX10_derived 64 = .ok (.goto (-20), 3) := by decide +kernel
theorem dX10_derived_67 : decode cX10_derived 67 = .ok (.aload_n 0, 1) := by decide +kernel
theorem dX10_derived_68 : decode cX10_derived 68 = .ok (.getfield 97, 3) := by decide +kernel
theorem dX10_derived_71 : decode cX10_derived 71 = .ok (.aload_n 0, 1) := by decide +kernel
theorem dX10_derived_72 : decode cX10_derived 72 = .ok (.getfield 367, 3) := by decide +kernel
theorem dX10_derived_75 : decode cX10_derived 75 = .ok (.aaload, 1) := by decide +kernel
theorem dX10_derived_76 : decode cX10_derived 76 = .ok (.iload_n 2, 1) := by decide +kernel
theorem dX10_derived_77 : decode cX10_derived 77 = .ok (.iload_n 2, 1) := by decide +kernel
theorem dX10_derived_78 : decode cX10_derived 78 = .ok (.ifCond .ne 7, 3) := by decide +kernel
theorem dX10_derived_81 : decode cX10_derived 81 = .ok (.iconst 1, 1) := by decide +kernel
theorem dX10_derived_82 : decode cX10_derived 82 = .ok (.goto 4, 3) := by decide +kernel
theorem dX10_derived_85 : decode cX10_derived 85 = .ok (.iconst 0, 1) := by decide +kernel
theorem dX10_derived_86 : decode cX10_derived 86 = .ok (.iastore, 1) := by decide +kernel
theorem dX10_derived_87 : decode cX10_derived 87 = .ok (.iconst 1, 1) := by decide +kernel
theorem dX10_derived_88 : decode cX10_derived 88 = .ok (.istore_n 3, 1) := by decide +kernel
theorem dX10_derived_89 : decode cX10_derived 89 = .ok (.iload_n 3, 1) := by decide +kernel
theorem dX10_derived_90 : decode cX10_derived 90 = .ok (.ifCond .eq 90, 3) := by decide +kernel
theorem dX10_derived_93 : decode cX10_derived 93 = .ok (.iconst 0, 1) := by decide +kernel
theorem dX10_derived_94 : decode cX10_derived 94 = .ok (.istore_n 3, 1) := by decide +kernel
theorem dX10_derived_95 : decode cX10_derived 95 = .ok (.aload_n 0, 1) := by decide +kernel
theorem dX10_derived_96 : decode cX10_derived 96 = .ok (.getfield 367, 3) := by decide +kernel
theorem dX10_derived_99 : decode cX10_derived 99 = .ok (.iconst 1, 1) := by decide +kernel
theorem dX10_derived_100 : decode cX10_derived 100 = .ok (.isub, 1) := by decide +kernel
theorem dX10_derived_101 : decode cX10_derived 101 = .ok (.istore 4, 2) := by decide +kernel
theorem dX10_derived_103 : decode cX10_derived 103 = .ok (.iload 4, 2) := by decide +kernel
theorem dX10_derived_105 : decode cX10_derived 105 = .ok (.ifCond .lt 72, 3) := by decide +kernel
theorem dX10_derived_108 : decode cX10_derived 108 = .ok (.aload_n 0, 1) := by decide +kernel
theorem dX10_derived_109 : decode cX10_derived 109 = .ok (.iload 4, 2) := by decide +kernel
theorem dX10_derived_111 : decode cX10_derived 111 = .ok (.iload_n 2, 1) := by decide +kernel
theorem dX10_derived_112 : decode cX10_derived 112 = .ok (.iload_n 2, 1) := by decide +kernel
theorem dX10_derived_113 : decode cX10_derived 113 = .ok (.ifCond .ne 7, 3) := by decide +kernel
theorem dX10_derived_116 : decode cX10_derived 116 = .ok (.iconst 0, 1) := by decide +kernel
theorem dX10_derived_117 : decode cX10_derived 117 = .ok (.goto 16, 3) := by decide +kernel
theorem dX10_derived_120 : decode cX10_derived 120 = .ok (.aload_n 0, 1) := by decide +kernel
theorem dX10_derived_121 : decode cX10_derived 121 = .ok (.getfield 97, 3) := by decide +kernel
theorem dX10_derived_124 : decode cX10_derived 124 = .ok (.iload 4, 2) := by decide +kernel
theorem dX10_derived_126 : decode cX10_derived 126 = .ok (.iconst 1, 1) := by decide +kernel
theorem dX10_derived_127 : decode cX10_derived 127 = .ok (.iadd, 1) := by decide +kernel
theorem dX10_derived_128 : decode cX10_derived 128 = .ok (.aaload, 1) := by decide +kernel
theorem dX10_derived_129 : decode cX10_derived 129 = .ok (.iload_n 2, 1) := by decide +kernel
theorem dX10_derived_130 : decode cX10_derived 130 = .ok (.iconst 1, 1) := by decide +kernel
theorem dX10_derived_131 : decode cX10_derived 131 = .ok (.isub, 1) := by decide +kernel
theorem dX10_derived_132 : decode cX10_derived 132 = .ok (.iaload, 1) := by decide +kernel
theorem dX10_derived_133 : decode cX10_derived 133 = .ok (.invokevirtual 386, 3) := by decide +kernel
theorem dX10_derived_136 : decode cX10_derived 136 = .ok (.istore 5, 2) := by decide +kernel
theorem dX10_derived_138 : decode cX10_derived 138 = .ok (.iload_n 3, 1) := by decide +kernel
theorem dX10_derived_139 : decode cX10_derived 139 = .ok (.iload 5, 2) := by decide +kernel
theorem dX10_derived_141 : decode cX10_derived 141 = .ok (.aload_n 0, 1) := by decide +kernel
theorem dX10_derived_142 : decode cX10_derived 142 = .ok (.getfield 97, 3) := by decide +kernel
theorem dX10_derived_145 : decode cX10_derived 145 = .ok (.iload 4, 2) := by decide +kernel
theorem dX10_derived_147 : decode cX10_derived 147 = .ok (.aaload, 1) := by decide +kernel
theorem dX10_derived_148 : decode cX10_derived 148 = .ok (.iload_n 2, 1) := by decide +kernel
theorem dX10_derived_149 : decode cX10_derived 149 = .ok (.iaload, 1) := by decide +kernel
theorem dX10_derived_150 : decode cX10_derived 150 = .ok (.if_icmp .eq 7, 3) := by decide +kernel
theorem dX10_derived_153 : decode cX10_derived 153 = .ok (.iconst 1, 1) := by decide +kernel
theorem dX10_derived_154 : decode cX10_derived 154 = .ok (.goto 4, 3) := by decide +kernel
theorem dX10_derived_157 : decode cX10_derived 157 = .ok (.iconst 0, 1) := by decide +kernel
theorem dX10_derived_158 : decode cX10_derived 158 = .ok (.ior, 1) := by decide +kernel
theorem dX10_derived_159 : decode cX10_derived 159 = .ok (.istore_n 3, 1) := by decide +kernel
theorem dX10_derived_160 : decode cX10_derived 160 = .ok (.aload_n 0, 1) := by decide +kernel
theorem dX10_derived_161 : decode cX10_derived 161 = .ok (.getfield 97, 3) := by decide +kernel
theorem dX10_derived_164 : decode cX10_derived 164 = .ok (.iload 4, 2) := by decide +kernel
theorem dX10_derived_166 : decode cX10_derived 166 = .ok (.aaload, 1) := by decide +kernel
theorem dX10_derived_167 : decode cX10_derived 167 = .ok (.iload_n 2, 1) := by decide +kernel
theorem dX10_derived_168 : decode cX10_derived 168 = .ok (.iload 5, 2) := by decide +kernel
theorem dX10_derived_170 : decode cX10_derived 170 = .ok (.iastore, 1) := by decide +kernel
theorem dX10_derived_171 : decode cX10_derived 171 = .ok (.iinc 4 (-1), 3) := by decide +kernel
theorem dX10_derived_174 : decode cX10_derived 174 = .ok (.goto (-71), 3) := by decide +kernel
theorem dX10_derived_177 : decode cX10_derived 177 = .ok (.goto (-88), 3) := by decide +kernel
theorem dX10_derived_180 : decode cX10_derived 180 = .ok (.iinc 2 1, 3) := by decide +kernel
theorem dX10_derived_183 : decode cX10_derived 183 = .ok (.goto (-146), 3) := by decide +kernel
theorem dX10_derived_186 : decode cX10_derived 186 = .ok (.aload_n 0, 1) := by decide +kernel
theorem dX10_derived_187 : decode cX10_derived 187 = .ok (.getfield 97, 3) := by decide +kernel
theorem dX10_derived_190 : decode cX10_derived 190 = .ok (.iconst 0, 1) := by decide +kernel
theorem dX10_derived_191 : decode cX10_derived 191 = .ok (.aaload, 1) := by decide +kernel
theorem dX10_derived_192 : decode cX10_derived 192 = .ok (.iload_n 1, 1) := by decide +kernel
theorem dX10_derived_193 : decode cX10_derived 193 = .ok (.iaload, 1) := by decide +kernel
theorem dX10_derived_194 : decode cX10_derived 194 = .ok (.ireturn, 1) := by decide +kernel
/-- within a column, with what the leaves count for given -/
def wayJ (μ0 μ : va_M) (pos : Nat) (T : Nat → Int) : Prop := fr (colF pos) μ0 μ ∧ fxI μ pos T ∧ cOK μ pos
theorem wayJ_O {μ0 μ : va_M} {pos : Nat} {T : Nat → Int} (h : wayJ μ0 μ pos T) (hO : stOK μ0) : stOK μ := stOK_fr hO h.1 (fun x y hh => by unfold colF CF at hh; omega)
theorem wayJ_up {μ0 μ : va_M} {pos q : Nat} {T : Nat → Int} (h : wayJ μ0 μ pos T) (hO : stOK μ0) (hq : (q : Int) < μ 0 39) (hT : 0 ≤ T q ∧ T q ≤ 1000000000) : wayJ μ0 (uz μ (4416 + q) pos (wF μ q pos (T q))) pos T ∧ mS (uz μ (4416 + q) pos (wF μ q pos (T q))) pos (μ 0 39).toNat ≤ mS μ pos (μ 0 39).toNat ∧ (wF μ q pos (T q) ≠ μ (4416 + q) pos → mS (uz μ (4416 + q) pos (wF μ q pos (T q))) pos (μ 0 39).toNat < mS μ pos (μ 0 39).toNat) := by
  have hO1 := wayJ_O h hO
  obtain ⟨h1, h2, h3⟩ := h
  have hr := wF_rng hO1 hq h3 hT
  have hle := h2 q hq
  have hb := hO1.2.1
  have hu := mS_up (μ := μ) (q := q) (col := pos) (v := wF μ q pos (T q)) (μ 0 39).toNat (by omega) hle hr.2
  refine ⟨⟨fr_uz h1 ⟨by unfold CF; omega, rfl⟩, fxI_up hO1 hq h2, ?_⟩, hu.1, fun hne => hu.2 (by omega)⟩
  intro x hx
  rw [uz_n (by omega)] at hx
  by_cases hxq : x = q
  · subst hxq; rw [uz_s]; exact hr
  · rw [uz_n (by omega)]; exact h3 x hx
def tkd (μ : va_M) (c x : Nat) : Int := if c = 0 then 0 else μ (4416 + (x + 1)) (c - 1)
set_option maxHeartbeats 4000000 in
set_option maxRecDepth 100000 in
theorem LX10_derived_44 {p : Program} {l : Launch} {e : Env} {R : Room} {s : State} {m : MethodId} {args : Array Value} {below : List Frame} {meth : Method} {c : Code} {cells slots : Nat} {Q : State → Prop} {dC : Nat → ClassId} {dI : Nat → Nat → Nat} {h0 : Nat} {cI cZ cII cIII : ClassId} (hx : p.tables.exec = Jvm.exec) (hb : c.code = cX10_derived) (hml : c.maxLocals = 6) (hown : s.vm.findClass RX10 = some m.cls) (hts : ∀ w ∈ wsG, w.before args s = true) (hK : va_K (dC, dI) vwCl (mT cI cZ cII cIII) s) (hRf : 5 ≤ R.frames) (hRl : 120 ≤ R.locals) (hRc : cells ≤ R.cells) (hRs : slots ≤ R.slots) (μ0 : va_M) (tk : Int) (pos : Int) (hO : stOK μ0) (hpos : 0 ≤ pos ∧ pos ≤ 60) (hexit67 : ∀ (q : Int) (μ : va_M) (H : Heap) (locs : List Loc) (ls : Array Slot), (fr (colF pos.toNat) μ0 μ) → (∀ x : Nat, (x : Int) ≤ μ0 0 39 → μ (4416 + x) pos.toNat = 0) → va_P (dC, dI) vwCl (fw (mE cI cZ cII cIII h0) h0 6325 μ) H → va_S (fA h0 6325 s.heap.size) s.heap H locs → lv_has ls 6 [(2, .int (iZ (pos))), (1, .int (iZ (tk))), (0, .ref h0)] → W p l e R s m args below meth c H locs cells slots Q (F0 m 67 ls [])) :
    ∀ (n9 : Nat) (q : Int) (μ : va_M) (H : Heap) (locs : List Loc) (ls : Array Slot), (0 ≤ q ∧ q ≤ μ0 0 39 + 1) → (fr (colF pos.toNat) μ0 μ) → (∀ x : Nat, (x : Int) < q → μ (4416 + x) pos.toNat = 0) → (2000 - q).toNat < n9 → va_P (dC, dI) vwCl (fw (mE cI cZ cII cIII h0) h0 6325 μ) H → va_S (fA h0 6325 s.heap.size) s.heap H locs → lv_has ls 6 [(3, .int (iZ (q))), (2, .int (iZ (pos))), (1, .int (iZ (tk))), (0, .ref h0)] → W p l e R s m args below meth c H locs cells slots Q (F0 m 44 ls []) := by
  intro n9
  induction n9 with
  | zero => intro q μ H locs ls hq hf hz hm9 hP hS hl; exact absurd hm9 (Nat.not_lt_zero _)
  | succ n9 ih =>
    intro q μ H locs ls hq hf hz hm9 hP hS hl
    have e39 : μ 0 39 = μ0 0 39 := hf 0 39 (colF_n (by omega))
    have hb1 := hO.1
    have hb2 := hO.2.1
    refine lv_iload_n hx hb dX10_derived_44 rfl (lv_at hl 0 rfl) ?_
    refine lv_aload_n hx hb dX10_derived_45 rfl (lv_at hl 3 rfl) ?_
    refine fz_get (D := (dC, dI)) (ci := 10) (v := .int (iZ (μ 0 39))) (C := RX10) (T := TX10) (N := 53) hx hb hts inG10 hown hK hP (k := 0) (by decide) (F := mF h0) mE_obj rfl 39 (by decide) (hts _ k1205) (fun _ h9 => h9) rfl dX10_derived_46 ?_
    refine fz_icmp_gt (tgt := 67) (by constructor <;> omega) (by constructor <;> omega) hx hb dX10_derived_49 (by decide) (fun c49_ => ?_) (fun c49_ => ?_)
    · exact hexit67 (q) μ H locs ls (by exact hf) (by
                    intro x hx
                    exact hz x (by omega)) hP hS (lv_sub hl [1, 2, 3] rfl)
    · refine lv_aload_n hx hb dX10_derived_52 rfl (lv_at hl 3 rfl) ?_
      refine fz_get (D := (dC, dI)) (ci := 10) (v := .ref (h0 + 4415)) (C := RX10) (T := TX10) (N := 53) hx hb hts inG10 hown hK hP (k := 0) (by decide) (F := mF h0) mE_obj rfl 43 (by decide) (hts _ k1209) (fun _ h9 => h9) rfl dX10_derived_53 ?_
      refine lv_iload_n hx hb dX10_derived_56 rfl (lv_at hl 0 rfl) ?_
      refine fz_ald (k := 4415) (n := 1900) (k2 := (4416 + (q).toNat)) hx hb hK hP 2 rfl (by decide) mE_can rfl ⟨by omega, by omega⟩ (by decide) (if_pos (by omega)) dX10_derived_57 ?_
      refine lv_iload_n hx hb dX10_derived_58 rfl (lv_at hl 1 rfl) ?_
      refine lv_iconst (v := iZ 0) hx hb dX10_derived_59 rfl ?_
      refine fz_st (k := (4416 + (q).toNat)) (n := 62) (i := pos) (z := 0) hx hb hK hP fA_in hS 0 (by omega) (mE_canR (by omega)) rfl ⟨by omega, by omega⟩ (by decide) dX10_derived_60 (fun H locs hP hS => ?_)
      obtain ⟨μ1, eμ1⟩ : ∃ x : va_M, x = uz μ (4416 + (q).toNat) (pos).toNat (0) := ⟨_, rfl⟩
      rw [← eμ1] at hP
      refine lv_iinc (v := iZ (q + 1)) (lv' := [(3, .int (iZ (q + 1))), (2, .int (iZ (pos))), (1, .int (iZ (tk))), (0, .ref h0)]) hx hb dX10_derived_61 hl (k := 0) rfl (iZ_add _ _) (by decide) rfl (fun ls hl => ?_)
      refine lv_goto (tgt := 44) hx hb dX10_derived_64 (by decide) ?_
      exact ih (q + 1) μ1 H locs ls (by omega) (by
                    subst eμ1
                    exact fr_uz hf ⟨by unfold CF; omega, rfl⟩) (by
                    subst eμ1
                    intro x hx
                    by_cases h9 : x = q.toNat
                    · subst h9; rw [uz_s]
                    · rw [uz_n (by omega)]; exact hz x (by omega)) (by omega) hP hS (lv_sub hl [0, 1, 2, 3] rfl)
set_option maxHeartbeats 4000000 in
set_option maxRecDepth 100000 in
theorem LX10_derived_103 {p : Program} {l : Launch} {e : Env} {R : Room} {s : State} {m : MethodId} {args : Array Value} {below : List Frame} {meth : Method} {c : Code} {cells slots : Nat} {Q : State → Prop} {dC : Nat → ClassId} {dI : Nat → Nat → Nat} {h0 : Nat} {cI cZ cII cIII : ClassId} (hx : p.tables.exec = Jvm.exec) (hb : c.code = cX10_derived) (hml : c.maxLocals = 6) (hown : s.vm.findClass RX10 = some m.cls) (hts : ∀ w ∈ wsG, w.before args s = true) (hK : va_K (dC, dI) vwCl (mT cI cZ cII cIII) s) (hRf : 5 ≤ R.frames) (hRl : 120 ≤ R.locals) (hRc : cells ≤ R.cells) (hRs : slots ≤ R.slots) (μ0 : va_M) (tk : Int) (pos : Int) (M0 : Nat) (hO : stOK μ0) (hpos : 0 ≤ pos ∧ pos ≤ 60) (hnx : 0 < pos → cOK μ0 (pos.toNat - 1)) (hexit177 : ∀ (mv : Int) (q : Int) (μ : va_M) (H : Heap) (locs : List Loc) (ls : Array Slot), (wayJ μ0 μ pos.toNat (tkd μ0 pos.toNat)) → (mS μ pos.toNat (μ0 0 39).toNat ≤ M0 ∧ (mv = 0 ∨ (mv = 1 ∧ mS μ pos.toNat (μ0 0 39).toNat < M0))) → va_P (dC, dI) vwCl (fw (mE cI cZ cII cIII h0) h0 6325 μ) H → va_S (fA h0 6325 s.heap.size) s.heap H locs → lv_has ls 6 [(3, .int (iZ (mv))), (2, .int (iZ (pos))), (1, .int (iZ (tk))), (0, .ref h0)] → W p l e R s m args below meth c H locs cells slots Q (F0 m 177 ls [])) :
    ∀ (n9 : Nat) (mv : Int) (q : Int) (μ : va_M) (H : Heap) (locs : List Loc) (ls : Array Slot), (-1 ≤ q ∧ q < μ0 0 39) → (wayJ μ0 μ pos.toNat (tkd μ0 pos.toNat)) → (mS μ pos.toNat (μ0 0 39).toNat ≤ M0) → (mv = 0 ∨ (mv = 1 ∧ mS μ pos.toNat (μ0 0 39).toNat < M0)) → (q + 2).toNat < n9 → va_P (dC, dI) vwCl (fw (mE cI cZ cII cIII h0) h0 6325 μ) H → va_S (fA h0 6325 s.heap.size) s.heap H locs → lv_has ls 6 [(4, .int (iZ (q))), (3, .int (iZ (mv))), (2, .int (iZ (pos))), (1, .int (iZ (tk))), (0, .ref h0)] → W p l e R s m args below meth c H locs cells slots Q (F0 m 103 ls []) := by
  intro n9
  induction n9 with
  | zero => intro mv q μ H locs ls hq hW hM hd hm9 hP hS hl; exact absurd hm9 (Nat.not_lt_zero _)
  | succ n9 ih =>
    intro mv q μ H locs ls hq hW hM hd hm9 hP hS hl
    have hO1 := wayJ_O hW hO
    have hf := hW.1
    have e39 : μ 0 39 = μ0 0 39 := hf 0 39 (colF_n (by omega))
    have hb1 := hO.1
    have hb2 := hO.2.1
    have hmv : mv = 0 ∨ mv = 1 := by rcases hd with h | h <;> omega
    have hc1 := hW.2.2
    refine lv_iload hx hb dX10_derived_103 (lv_at hl 0 rfl) ?_
    refine fz_if_lt (tgt := 177) (by constructor <;> omega) hx hb dX10_derived_105 (by decide) (fun c105_ => ?_) (fun c105_ => ?_)
    · exact hexit177 (mv) (q) μ H locs ls (by exact hW) (by exact ⟨hM, hd⟩) hP hS (lv_sub hl [1, 2, 3, 4] rfl)
    · refine lv_aload_n hx hb dX10_derived_108 rfl (lv_at hl 4 rfl) ?_
      refine lv_iload hx hb dX10_derived_109 (lv_at hl 0 rfl) ?_
      refine lv_iload_n hx hb dX10_derived_111 rfl (lv_at hl 2 rfl) ?_
      refine lv_iload_n hx hb dX10_derived_112 rfl (lv_at hl 2 rfl) ?_
      refine fz_if_ne (tgt := 120) (by constructor <;> omega) hx hb dX10_derived_113 (by decide) (fun c113_ => ?_) (fun c113_ => ?_)
      · have eq1 : (q + 1).toNat = q.toNat + 1 := by omega
        have ep1 : (pos - 1).toNat = pos.toNat - 1 := by omega
        have hT1 : tkd μ0 pos.toNat q.toNat = μ (4416 + (q.toNat + 1)) (pos.toNat - 1) := by unfold tkd; rw [if_neg (by omega), hf _ _ (colF_n (by omega))]
        have hT2 : 0 ≤ tkd μ0 pos.toNat q.toNat ∧ tkd μ0 pos.toNat q.toNat ≤ 1000000000 := by unfold tkd; rw [if_neg (by omega)]; exact hnx (by omega) (q.toNat + 1) (by omega)
        refine lv_aload_n hx hb dX10_derived_120 rfl (lv_at hl 4 rfl) ?_
        refine fz_get (D := (dC, dI)) (ci := 10) (v := .ref (h0 + 4415)) (C := RX10) (T := TX10) (N := 53) hx hb hts inG10 hown hK hP (k := 0) (by decide) (F := mF h0) mE_obj rfl 43 (by decide) (hts _ k1209) (fun _ h9 => h9) rfl dX10_derived_121 ?_
        refine lv_iload hx hb dX10_derived_124 (lv_at hl 0 rfl) ?_
        refine lv_iconst (v := iZ 1) hx hb dX10_derived_126 rfl ?_
        refine lv_iadd hx hb dX10_derived_127 ?_
        refine lv_topi (fun x9 ex9 => ?_)
        obtain rfl : x9 = iZ (q + 1) := ex9.trans (iZ_add _ _)
        refine fz_ald (k := 4415) (n := 1900) (k2 := (4416 + (q + 1).toNat)) hx hb hK hP 2 rfl (by decide) mE_can rfl ⟨by omega, by omega⟩ (by decide) (if_pos (by omega)) dX10_derived_128 ?_
        refine lv_iload_n hx hb dX10_derived_129 rfl (lv_at hl 2 rfl) ?_
        refine lv_iconst (v := iZ 1) hx hb dX10_derived_130 rfl ?_
        refine lv_isub hx hb dX10_derived_131 ?_
        refine lv_topi (fun x9 ex9 => ?_)
        obtain rfl : x9 = iZ (pos - 1) := ex9.trans (iZ_sub _ _)
        refine fz_ld (k := (4416 + (q + 1).toNat)) (n := 62) hx hb hK hP 0 (by omega) (mE_canR (by omega)) rfl ⟨by omega, by omega⟩ (by decide) dX10_derived_132 ?_
        rw [show μ (4416 + (q + 1).toNat) (pos - 1).toNat = μ (4416 + (q.toNat + 1)) (pos.toNat - 1) from (by rw [eq1, ep1])]
        refine va_calli (va_runV (As := [.int (iZ (q)), .int (iZ (pos)), .int (iZ (μ (4416 + (q.toNat + 1)) (pos.toNat - 1)))]) (rest := []) ⟨hx, hb, hml, hown, hts⟩ (m_waysFrom l dC dI cI cZ cII cIII h0 H.size μ (q) (pos) (μ (4416 + (q.toNat + 1)) (pos.toNat - 1)) (by first | assumption | omega | exact ⟨by omega, by omega⟩) (by omega) (by first | assumption | omega | exact ⟨by omega, by omega⟩) (by exact hc1)) (cwV 3 hts (gV_G k1516 k1518 ks_yX10_waysFrom k13 k1519) rfl rfl rfl (by decide +kernel) ⟨by show 3 + 1 ≤ _; omega, by show 8 + (4 + 11) + (56) ≤ _; omega⟩) ⟨fun a U g mk q => by obtain ⟨q0, q1, qP, qK⟩ := q; exact ⟨q0, q1, qP, va_K.moved (u := U) (U := U.calling g mk a) (Vm.Alike.refl U.vm) qK⟩, va_recv hK hP (ci := 10) (q0 := 0) rfl ((fw_get (by decide)).trans (by rw [mE_obj]; rfl)), fun U hU hW => ⟨rfl, by rw [hU], by rw [hU]; exact hP, va_K.moved hW.alike hK⟩⟩ rfl rfl hl.1 rfl (lv_room (Nat.le_of_ble_eq_true rfl)) dX10_derived_133 ⟨hRc, hRs⟩) hS (fun q _ h => fA_le hS.1 q h) (fA_le hS.1) (fun r9 u9 t9 H1 locs ht9 hvm9 hw9 hB9 hz9 hk9 hS => ?_)
        obtain ⟨μ2, rn⟩ := u9
        obtain ⟨hP, -⟩ := hB9
        rw [ht9] at hP
        generalize H1 = H at hP hS ⊢
        obtain ⟨e9, hw9⟩ := hw9
        have e9 : r9 = iZ rn := e9
        subst e9
        simp only at hP hw9
        have hμ2 := hw9; clear hw9
        rw [hμ2.1] at hP; have hμ2 := hμ2.2
        have hn : rn = wF μ q.toNat pos.toNat (tkd μ0 pos.toNat q.toNat) := by rw [hT1]; exact hμ2
        have hrr := wF_rng (q := q.toNat) hO1 (by omega) hc1 hT2
        have hcq := hc1 q.toNat (by omega)
        obtain ⟨hU1, hU2, hU3⟩ := wayJ_up (q := q.toNat) hW hO (by omega) hT2
        rw [← hn] at hU1 hU2 hU3
        rw [e39] at hU2 hU3
        refine lv_istore (lv' := [(5, .int (iZ (rn))), (4, .int (iZ (q))), (3, .int (iZ (mv))), (2, .int (iZ (pos))), (1, .int (iZ (tk))), (0, .ref h0)]) hx hb dX10_derived_136 hl (by decide) rfl (fun ls hl => ?_)
        refine lv_iload_n hx hb dX10_derived_138 rfl (lv_at hl 2 rfl) ?_
        refine lv_iload hx hb dX10_derived_139 (lv_at hl 0 rfl) ?_
        refine lv_aload_n hx hb dX10_derived_141 rfl (lv_at hl 5 rfl) ?_
        refine fz_get (D := (dC, dI)) (ci := 10) (v := .ref (h0 + 4415)) (C := RX10) (T := TX10) (N := 53) hx hb hts inG10 hown hK hP (k := 0) (by decide) (F := mF h0) mE_obj rfl 43 (by decide) (hts _ k1209) (fun _ h9 => h9) rfl dX10_derived_142 ?_
        refine lv_iload hx hb dX10_derived_145 (lv_at hl 1 rfl) ?_
        refine fz_ald (k := 4415) (n := 1900) (k2 := (4416 + (q).toNat)) hx hb hK hP 2 rfl (by decide) mE_can rfl ⟨by omega, by omega⟩ (by decide) (if_pos (by omega)) dX10_derived_147 ?_
        refine lv_iload_n hx hb dX10_derived_148 rfl (lv_at hl 3 rfl) ?_
        refine fz_ld (k := (4416 + (q).toNat)) (n := 62) hx hb hK hP 0 (by omega) (mE_canR (by omega)) rfl ⟨by omega, by omega⟩ (by decide) dX10_derived_149 ?_
        refine fz_icmp_eq (tgt := 157) (by constructor <;> omega) (by constructor <;> omega) hx hb dX10_derived_150 (by decide) (fun c150_ => ?_) (fun c150_ => ?_)
        · refine lv_iconst (v := iZ 0) hx hb dX10_derived_157 rfl ?_
          refine lv_ior hx hb dX10_derived_158 ?_
          refine lv_topi (fun x9 ex9 => ?_)
          obtain ⟨z3, rfl, hz3⟩ := iZ_ex x9
          have ez3 := ex9; clear ex9
          refine lv_istore_n (lv' := [(3, .int (iZ (z3))), (5, .int (iZ (rn))), (4, .int (iZ (q))), (2, .int (iZ (pos))), (1, .int (iZ (tk))), (0, .ref h0)]) hx hb dX10_derived_159 rfl hl (by decide) rfl (fun ls hl => ?_)
          refine lv_aload_n hx hb dX10_derived_160 rfl (lv_at hl 5 rfl) ?_
          refine fz_get (D := (dC, dI)) (ci := 10) (v := .ref (h0 + 4415)) (C := RX10) (T := TX10) (N := 53) hx hb hts inG10 hown hK hP (k := 0) (by decide) (F := mF h0) mE_obj rfl 43 (by decide) (hts _ k1209) (fun _ h9 => h9) rfl dX10_derived_161 ?_
          refine lv_iload hx hb dX10_derived_164 (lv_at hl 2 rfl) ?_
          refine fz_ald (k := 4415) (n := 1900) (k2 := (4416 + (q).toNat)) hx hb hK hP 2 rfl (by decide) mE_can rfl ⟨by omega, by omega⟩ (by decide) (if_pos (by omega)) dX10_derived_166 ?_
          refine lv_iload_n hx hb dX10_derived_167 rfl (lv_at hl 3 rfl) ?_
          refine lv_iload hx hb dX10_derived_168 (lv_at hl 1 rfl) ?_
          have hz1 := ior_b hz3 ez3 hmv (by omega)
          refine fz_st (k := (4416 + (q).toNat)) (n := 62) (i := pos) (z := rn) hx hb hK hP fA_in hS 0 (by omega) (mE_canR (by omega)) rfl ⟨by omega, by omega⟩ (by decide) dX10_derived_170 (fun H locs hP hS => ?_)
          obtain ⟨μ4, eμ4⟩ : ∃ x : va_M, x = uz μ (4416 + (q).toNat) (pos).toNat (rn) := ⟨_, rfl⟩
          rw [← eμ4] at hP
          refine lv_iinc (v := iZ (q - 1)) (lv' := [(4, .int (iZ (q - 1))), (3, .int (iZ (z3))), (5, .int (iZ (rn))), (2, .int (iZ (pos))), (1, .int (iZ (tk))), (0, .ref h0)]) hx hb dX10_derived_171 hl (k := 2) rfl (iZ_add _ (-1)) (by decide) rfl (fun ls hl => ?_)
          refine lv_goto (tgt := 103) hx hb dX10_derived_174 (by decide) ?_
          exact ih (z3) (q - 1) μ4 H locs ls (by omega) (by
                            subst eμ4
                            exact hU1) (by
                            subst eμ4
                            omega) (by
                            subst eμ4
                            rcases hz1 with ⟨z1, z2, z3⟩ | ⟨z1, z2⟩
                            · exact Or.inl z1
                            · right
                              refine ⟨z1, ?_⟩
                              rcases hd with hd | ⟨_, hd⟩
                              · have h9 := hU3 (by omega)
                                omega
                              · omega) (by omega) hP hS (lv_sub hl [0, 1, 3, 4, 5] rfl)
        · refine lv_iconst (v := iZ 1) hx hb dX10_derived_153 rfl ?_
          refine lv_goto (tgt := 158) hx hb dX10_derived_154 (by decide) ?_
          refine lv_ior hx hb dX10_derived_158 ?_
          refine lv_topi (fun x9 ex9 => ?_)
          obtain ⟨z5, rfl, hz5⟩ := iZ_ex x9
          have ez5 := ex9; clear ex9
          refine lv_istore_n (lv' := [(3, .int (iZ (z5))), (5, .int (iZ (rn))), (4, .int (iZ (q))), (2, .int (iZ (pos))), (1, .int (iZ (tk))), (0, .ref h0)]) hx hb dX10_derived_159 rfl hl (by decide) rfl (fun ls hl => ?_)
          refine lv_aload_n hx hb dX10_derived_160 rfl (lv_at hl 5 rfl) ?_
          refine fz_get (D := (dC, dI)) (ci := 10) (v := .ref (h0 + 4415)) (C := RX10) (T := TX10) (N := 53) hx hb hts inG10 hown hK hP (k := 0) (by decide) (F := mF h0) mE_obj rfl 43 (by decide) (hts _ k1209) (fun _ h9 => h9) rfl dX10_derived_161 ?_
          refine lv_iload hx hb dX10_derived_164 (lv_at hl 2 rfl) ?_
          refine fz_ald (k := 4415) (n := 1900) (k2 := (4416 + (q).toNat)) hx hb hK hP 2 rfl (by decide) mE_can rfl ⟨by omega, by omega⟩ (by decide) (if_pos (by omega)) dX10_derived_166 ?_
          refine lv_iload_n hx hb dX10_derived_167 rfl (lv_at hl 3 rfl) ?_
          refine lv_iload hx hb dX10_derived_168 (lv_at hl 1 rfl) ?_
          have hz1 := ior_b hz5 ez5 hmv (by omega)
          refine fz_st (k := (4416 + (q).toNat)) (n := 62) (i := pos) (z := rn) hx hb hK hP fA_in hS 0 (by omega) (mE_canR (by omega)) rfl ⟨by omega, by omega⟩ (by decide) dX10_derived_170 (fun H locs hP hS => ?_)
          obtain ⟨μ6, eμ6⟩ : ∃ x : va_M, x = uz μ (4416 + (q).toNat) (pos).toNat (rn) := ⟨_, rfl⟩
          rw [← eμ6] at hP
          refine lv_iinc (v := iZ (q - 1)) (lv' := [(4, .int (iZ (q - 1))), (3, .int (iZ (z5))), (5, .int (iZ (rn))), (2, .int (iZ (pos))), (1, .int (iZ (tk))), (0, .ref h0)]) hx hb dX10_derived_171 hl (k := 2) rfl (iZ_add _ (-1)) (by decide) rfl (fun ls hl => ?_)
          refine lv_goto (tgt := 103) hx hb dX10_derived_174 (by decide) ?_
          exact ih (z5) (q - 1) μ6 H locs ls (by omega) (by
                            subst eμ6
                            exact hU1) (by
                            subst eμ6
                            omega) (by
                            subst eμ6
                            rcases hz1 with ⟨z1, z2, z3⟩ | ⟨z1, z2⟩
                            · exact Or.inl z1
                            · right
                              refine ⟨z1, ?_⟩
                              rcases hd with hd | ⟨_, hd⟩
                              · have h9 := hU3 (by omega)
                                omega
                              · omega) (by omega) hP hS (lv_sub hl [0, 1, 3, 4, 5] rfl)
      · have hT1 : tkd μ0 pos.toNat q.toNat = 0 := by unfold tkd; rw [if_pos (by omega)]
        have hT2 : 0 ≤ tkd μ0 pos.toNat q.toNat ∧ tkd μ0 pos.toNat q.toNat ≤ 1000000000 := by omega
        refine lv_iconst (v := iZ 0) hx hb dX10_derived_116 rfl ?_
        refine lv_goto (tgt := 133) hx hb dX10_derived_117 (by decide) ?_
        refine va_calli (va_runV (As := [.int (iZ (q)), .int (iZ (pos)), .int (iZ (0))]) (rest := []) ⟨hx, hb, hml, hown, hts⟩ (m_waysFrom l dC dI cI cZ cII cIII h0 H.size μ (q) (pos) (0) (by first | assumption | omega | exact ⟨by omega, by omega⟩) (by omega) (by first | assumption | omega | exact ⟨by omega, by omega⟩) (by exact hc1)) (cwV 3 hts (gV_G k1516 k1518 ks_yX10_waysFrom k13 k1519) rfl rfl rfl (by decide +kernel) ⟨by show 3 + 1 ≤ _; omega, by show 8 + (4 + 11) + (56) ≤ _; omega⟩) ⟨fun a U g mk q => by obtain ⟨q0, q1, qP, qK⟩ := q; exact ⟨q0, q1, qP, va_K.moved (u := U) (U := U.calling g mk a) (Vm.Alike.refl U.vm) qK⟩, va_recv hK hP (ci := 10) (q0 := 0) rfl ((fw_get (by decide)).trans (by rw [mE_obj]; rfl)), fun U hU hW => ⟨rfl, by rw [hU], by rw [hU]; exact hP, va_K.moved hW.alike hK⟩⟩ rfl rfl hl.1 rfl (lv_room (Nat.le_of_ble_eq_true rfl)) dX10_derived_133 ⟨hRc, hRs⟩) hS (fun q _ h => fA_le hS.1 q h) (fA_le hS.1) (fun r9 u9 t9 H1 locs ht9 hvm9 hw9 hB9 hz9 hk9 hS => ?_)
        obtain ⟨μ7, rn⟩ := u9
        obtain ⟨hP, -⟩ := hB9
        rw [ht9] at hP
        generalize H1 = H at hP hS ⊢
        obtain ⟨e9, hw9⟩ := hw9
        have e9 : r9 = iZ rn := e9
        subst e9
        simp only at hP hw9
        have hμ7 := hw9; clear hw9
        rw [hμ7.1] at hP; have hμ7 := hμ7.2
        have hn : rn = wF μ q.toNat pos.toNat (tkd μ0 pos.toNat q.toNat) := by rw [hT1]; exact hμ7
        have hrr := wF_rng (q := q.toNat) hO1 (by omega) hc1 hT2
        have hcq := hc1 q.toNat (by omega)
        obtain ⟨hU1, hU2, hU3⟩ := wayJ_up (q := q.toNat) hW hO (by omega) hT2
        rw [← hn] at hU1 hU2 hU3
        rw [e39] at hU2 hU3
        refine lv_istore (lv' := [(5, .int (iZ (rn))), (4, .int (iZ (q))), (3, .int (iZ (mv))), (2, .int (iZ (pos))), (1, .int (iZ (tk))), (0, .ref h0)]) hx hb dX10_derived_136 hl (by decide) rfl (fun ls hl => ?_)
        refine lv_iload_n hx hb dX10_derived_138 rfl (lv_at hl 2 rfl) ?_
        refine lv_iload hx hb dX10_derived_139 (lv_at hl 0 rfl) ?_
        refine lv_aload_n hx hb dX10_derived_141 rfl (lv_at hl 5 rfl) ?_
        refine fz_get (D := (dC, dI)) (ci := 10) (v := .ref (h0 + 4415)) (C := RX10) (T := TX10) (N := 53) hx hb hts inG10 hown hK hP (k := 0) (by decide) (F := mF h0) mE_obj rfl 43 (by decide) (hts _ k1209) (fun _ h9 => h9) rfl dX10_derived_142 ?_
        refine lv_iload hx hb dX10_derived_145 (lv_at hl 1 rfl) ?_
        refine fz_ald (k := 4415) (n := 1900) (k2 := (4416 + (q).toNat)) hx hb hK hP 2 rfl (by decide) mE_can rfl ⟨by omega, by omega⟩ (by decide) (if_pos (by omega)) dX10_derived_147 ?_
        refine lv_iload_n hx hb dX10_derived_148 rfl (lv_at hl 3 rfl) ?_
        refine fz_ld (k := (4416 + (q).toNat)) (n := 62) hx hb hK hP 0 (by omega) (mE_canR (by omega)) rfl ⟨by omega, by omega⟩ (by decide) dX10_derived_149 ?_
        refine fz_icmp_eq (tgt := 157) (by constructor <;> omega) (by constructor <;> omega) hx hb dX10_derived_150 (by decide) (fun c150_ => ?_) (fun c150_ => ?_)
        · refine lv_iconst (v := iZ 0) hx hb dX10_derived_157 rfl ?_
          refine lv_ior hx hb dX10_derived_158 ?_
          refine lv_topi (fun x9 ex9 => ?_)
          obtain ⟨z8, rfl, hz8⟩ := iZ_ex x9
          have ez8 := ex9; clear ex9
          refine lv_istore_n (lv' := [(3, .int (iZ (z8))), (5, .int (iZ (rn))), (4, .int (iZ (q))), (2, .int (iZ (pos))), (1, .int (iZ (tk))), (0, .ref h0)]) hx hb dX10_derived_159 rfl hl (by decide) rfl (fun ls hl => ?_)
          refine lv_aload_n hx hb dX10_derived_160 rfl (lv_at hl 5 rfl) ?_
          refine fz_get (D := (dC, dI)) (ci := 10) (v := .ref (h0 + 4415)) (C := RX10) (T := TX10) (N := 53) hx hb hts inG10 hown hK hP (k := 0) (by decide) (F := mF h0) mE_obj rfl 43 (by decide) (hts _ k1209) (fun _ h9 => h9) rfl dX10_derived_161 ?_
          refine lv_iload hx hb dX10_derived_164 (lv_at hl 2 rfl) ?_
          refine fz_ald (k := 4415) (n := 1900) (k2 := (4416 + (q).toNat)) hx hb hK hP 2 rfl (by decide) mE_can rfl ⟨by omega, by omega⟩ (by decide) (if_pos (by omega)) dX10_derived_166 ?_
          refine lv_iload_n hx hb dX10_derived_167 rfl (lv_at hl 3 rfl) ?_
          refine lv_iload hx hb dX10_derived_168 (lv_at hl 1 rfl) ?_
          have hz1 := ior_b hz8 ez8 hmv (by omega)
          refine fz_st (k := (4416 + (q).toNat)) (n := 62) (i := pos) (z := rn) hx hb hK hP fA_in hS 0 (by omega) (mE_canR (by omega)) rfl ⟨by omega, by omega⟩ (by decide) dX10_derived_170 (fun H locs hP hS => ?_)
          obtain ⟨μ10, eμ10⟩ : ∃ x : va_M, x = uz μ (4416 + (q).toNat) (pos).toNat (rn) := ⟨_, rfl⟩
          rw [← eμ10] at hP
          refine lv_iinc (v := iZ (q - 1)) (lv' := [(4, .int (iZ (q - 1))), (3, .int (iZ (z8))), (5, .int (iZ (rn))), (2, .int (iZ (pos))), (1, .int (iZ (tk))), (0, .ref h0)]) hx hb dX10_derived_171 hl (k := 2) rfl (iZ_add _ (-1)) (by decide) rfl (fun ls hl => ?_)
          refine lv_goto (tgt := 103) hx hb dX10_derived_174 (by decide) ?_
          exact ih (z8) (q - 1) μ10 H locs ls (by omega) (by
                            subst eμ10
                            exact hU1) (by
                            subst eμ10
                            omega) (by
                            subst eμ10
                            rcases hz1 with ⟨z1, z2, z3⟩ | ⟨z1, z2⟩
                            · exact Or.inl z1
                            · right
                              refine ⟨z1, ?_⟩
                              rcases hd with hd | ⟨_, hd⟩
                              · have h9 := hU3 (by omega)
                                omega
                              · omega) (by omega) hP hS (lv_sub hl [0, 1, 3, 4, 5] rfl)
        · refine lv_iconst (v := iZ 1) hx hb dX10_derived_153 rfl ?_
          refine lv_goto (tgt := 158) hx hb dX10_derived_154 (by decide) ?_
          refine lv_ior hx hb dX10_derived_158 ?_
          refine lv_topi (fun x9 ex9 => ?_)
          obtain ⟨z11, rfl, hz11⟩ := iZ_ex x9
          have ez11 := ex9; clear ex9
          refine lv_istore_n (lv' := [(3, .int (iZ (z11))), (5, .int (iZ (rn))), (4, .int (iZ (q))), (2, .int (iZ (pos))), (1, .int (iZ (tk))), (0, .ref h0)]) hx hb dX10_derived_159 rfl hl (by decide) rfl (fun ls hl => ?_)
          refine lv_aload_n hx hb dX10_derived_160 rfl (lv_at hl 5 rfl) ?_
          refine fz_get (D := (dC, dI)) (ci := 10) (v := .ref (h0 + 4415)) (C := RX10) (T := TX10) (N := 53) hx hb hts inG10 hown hK hP (k := 0) (by decide) (F := mF h0) mE_obj rfl 43 (by decide) (hts _ k1209) (fun _ h9 => h9) rfl dX10_derived_161 ?_
          refine lv_iload hx hb dX10_derived_164 (lv_at hl 2 rfl) ?_
          refine fz_ald (k := 4415) (n := 1900) (k2 := (4416 + (q).toNat)) hx hb hK hP 2 rfl (by decide) mE_can rfl ⟨by omega, by omega⟩ (by decide) (if_pos (by omega)) dX10_derived_166 ?_
          refine lv_iload_n hx hb dX10_derived_167 rfl (lv_at hl 3 rfl) ?_
          refine lv_iload hx hb dX10_derived_168 (lv_at hl 1 rfl) ?_
          have hz1 := ior_b hz11 ez11 hmv (by omega)
          refine fz_st (k := (4416 + (q).toNat)) (n := 62) (i := pos) (z := rn) hx hb hK hP fA_in hS 0 (by omega) (mE_canR (by omega)) rfl ⟨by omega, by omega⟩ (by decide) dX10_derived_170 (fun H locs hP hS => ?_)
          obtain ⟨μ12, eμ12⟩ : ∃ x : va_M, x = uz μ (4416 + (q).toNat) (pos).toNat (rn) := ⟨_, rfl⟩
          rw [← eμ12] at hP
          refine lv_iinc (v := iZ (q - 1)) (lv' := [(4, .int (iZ (q - 1))), (3, .int (iZ (z11))), (5, .int (iZ (rn))), (2, .int (iZ (pos))), (1, .int (iZ (tk))), (0, .ref h0)]) hx hb dX10_derived_171 hl (k := 2) rfl (iZ_add _ (-1)) (by decide) rfl (fun ls hl => ?_)
          refine lv_goto (tgt := 103) hx hb dX10_derived_174 (by decide) ?_
          exact ih (z11) (q - 1) μ12 H locs ls (by omega) (by
                            subst eμ12
                            exact hU1) (by
                            subst eμ12
                            omega) (by
                            subst eμ12
                            rcases hz1 with ⟨z1, z2, z3⟩ | ⟨z1, z2⟩
                            · exact Or.inl z1
                            · right
                              refine ⟨z1, ?_⟩
                              rcases hd with hd | ⟨_, hd⟩
                              · have h9 := hU3 (by omega)
                                omega
                              · omega) (by omega) hP hS (lv_sub hl [0, 1, 3, 4, 5] rfl)
set_option maxHeartbeats 4000000 in
set_option maxRecDepth 100000 in
theorem LX10_derived_89 {p : Program} {l : Launch} {e : Env} {R : Room} {s : State} {m : MethodId} {args : Array Value} {below : List Frame} {meth : Method} {c : Code} {cells slots : Nat} {Q : State → Prop} {dC : Nat → ClassId} {dI : Nat → Nat → Nat} {h0 : Nat} {cI cZ cII cIII : ClassId} (hx : p.tables.exec = Jvm.exec) (hb : c.code = cX10_derived) (hml : c.maxLocals = 6) (hown : s.vm.findClass RX10 = some m.cls) (hts : ∀ w ∈ wsG, w.before args s = true) (hK : va_K (dC, dI) vwCl (mT cI cZ cII cIII) s) (hRf : 5 ≤ R.frames) (hRl : 120 ≤ R.locals) (hRc : cells ≤ R.cells) (hRs : slots ≤ R.slots) (μ0 : va_M) (tk : Int) (pos : Int) (hO : stOK μ0) (hpos : 0 ≤ pos ∧ pos ≤ 60) (hnx : 0 < pos → cOK μ0 (pos.toNat - 1)) (hexit180 : ∀ (mv : Int) (μ : va_M) (H : Heap) (locs : List Loc) (ls : Array Slot), (fr (colF pos.toNat) μ0 μ) → (cOK μ pos.toNat) → va_P (dC, dI) vwCl (fw (mE cI cZ cII cIII h0) h0 6325 μ) H → va_S (fA h0 6325 s.heap.size) s.heap H locs → lv_has ls 6 [(2, .int (iZ (pos))), (1, .int (iZ (tk))), (0, .ref h0)] → W p l e R s m args below meth c H locs cells slots Q (F0 m 180 ls [])) :
    ∀ (n9 : Nat) (mv : Int) (μ : va_M) (H : Heap) (locs : List Loc) (ls : Array Slot), (wayJ μ0 μ pos.toNat (tkd μ0 pos.toNat)) → (mv = 0 ∨ mv = 1) → 2 * mS μ pos.toNat (μ0 0 39).toNat + mv.toNat < n9 → va_P (dC, dI) vwCl (fw (mE cI cZ cII cIII h0) h0 6325 μ) H → va_S (fA h0 6325 s.heap.size) s.heap H locs → lv_has ls 6 [(3, .int (iZ (mv))), (2, .int (iZ (pos))), (1, .int (iZ (tk))), (0, .ref h0)] → W p l e R s m args below meth c H locs cells slots Q (F0 m 89 ls []) := by
  intro n9
  induction n9 with
  | zero => intro mv μ H locs ls hW hd hm9 hP hS hl; exact absurd hm9 (Nat.not_lt_zero _)
  | succ n9 ih =>
    intro mv μ H locs ls hW hd hm9 hP hS hl
    have hO1 := wayJ_O hW hO
    have hf := hW.1
    have e39 : μ 0 39 = μ0 0 39 := hf 0 39 (colF_n (by omega))
    have hb1 := hO.1
    have hb2 := hO.2.1
    refine lv_iload_n hx hb dX10_derived_89 rfl (lv_at hl 0 rfl) ?_
    refine fz_if_eq (tgt := 180) (by constructor <;> omega) hx hb dX10_derived_90 (by decide) (fun c90_ => ?_) (fun c90_ => ?_)
    · exact hexit180 (mv) μ H locs ls (by exact hf) (by exact hW.2.2) hP hS (lv_sub hl [1, 2, 3] rfl)
    · refine lv_iconst (v := iZ 0) hx hb dX10_derived_93 rfl ?_
      refine lv_istore_n (lv' := [(3, .int (iZ (0))), (2, .int (iZ (pos))), (1, .int (iZ (tk))), (0, .ref h0)]) hx hb dX10_derived_94 rfl hl (by decide) rfl (fun ls hl => ?_)
      refine lv_aload_n hx hb dX10_derived_95 rfl (lv_at hl 3 rfl) ?_
      refine fz_get (D := (dC, dI)) (ci := 10) (v := .int (iZ (μ 0 39))) (C := RX10) (T := TX10) (N := 53) hx hb hts inG10 hown hK hP (k := 0) (by decide) (F := mF h0) mE_obj rfl 39 (by decide) (hts _ k1205) (fun _ h9 => h9) rfl dX10_derived_96 ?_
      refine lv_iconst (v := iZ 1) hx hb dX10_derived_99 rfl ?_
      refine lv_isub hx hb dX10_derived_100 ?_
      refine lv_topi (fun x9 ex9 => ?_)
      obtain rfl : x9 = iZ ((μ 0 39) - 1) := ex9.trans (iZ_sub _ _)
      refine lv_istore (lv' := [(4, .int (iZ ((μ 0 39) - 1))), (3, .int (iZ (0))), (2, .int (iZ (pos))), (1, .int (iZ (tk))), (0, .ref h0)]) hx hb dX10_derived_101 hl (by decide) rfl (fun ls hl => ?_)
      refine LX10_derived_103 hx hb hml hown hts hK hRf hRl hRc hRs (μ0) (tk) (pos) (mS μ pos.toNat (μ0 0 39).toNat) (by assumption) (by assumption) (by assumption) ?_ _ (0) ((μ 0 39) - 1) μ H locs ls (by omega) (by exact hW) (by exact Nat.le_refl _) (by exact Or.inl rfl) (Nat.lt_succ_self _) hP hS (lv_sub hl [0, 1, 2, 3, 4] rfl)
      · intro mv_13 q_13 μ13_ H locs ls q3_13 q4_13 hP hS hl
        have hl : lv_has ls 6 [(3, .int (iZ (mv_13))), (2, .int (iZ (pos))), (1, .int (iZ (tk))), (0, .ref h0)] := hl
        refine lv_goto (tgt := 89) hx hb dX10_derived_177 (by decide) ?_
        exact ih (mv_13) μ13_ H locs ls (by exact q3_13) (by have h9 := (q4_13).2; omega) (by have h9 := q4_13; omega) hP hS (lv_sub hl [0, 1, 2, 3] rfl)
set_option maxHeartbeats 4000000 in
set_option maxRecDepth 100000 in
theorem LX10_derived_37 {p : Program} {l : Launch} {e : Env} {R : Room} {s : State} {m : MethodId} {args : Array Value} {below : List Frame} {meth : Method} {c : Code} {cells slots : Nat} {Q : State → Prop} {dC : Nat → ClassId} {dI : Nat → Nat → Nat} {h0 : Nat} {cI cZ cII cIII : ClassId} (hx : p.tables.exec = Jvm.exec) (hb : c.code = cX10_derived) (hml : c.maxLocals = 6) (hown : s.vm.findClass RX10 = some m.cls) (hts : ∀ w ∈ wsG, w.before args s = true) (hK : va_K (dC, dI) vwCl (mT cI cZ cII cIII) s) (hRf : 5 ≤ R.frames) (hRl : 120 ≤ R.locals) (hRc : cells ≤ R.cells) (hRs : slots ≤ R.slots) (μ0 : va_M) (tk : Int) (hO : stOK μ0) (htk : 0 ≤ tk ∧ tk ≤ 60) (hexit186 : ∀ (pos : Int) (μ : va_M) (H : Heap) (locs : List Loc) (ls : Array Slot), (fr (fun x y => CF x) μ0 μ) → (cOK μ tk.toNat) → va_P (dC, dI) vwCl (fw (mE cI cZ cII cIII h0) h0 6325 μ) H → va_S (fA h0 6325 s.heap.size) s.heap H locs → lv_has ls 6 [(1, .int (iZ (tk))), (0, .ref h0)] → W p l e R s m args below meth c H locs cells slots Q (F0 m 186 ls [])) :
    ∀ (n9 : Nat) (pos : Int) (μ : va_M) (H : Heap) (locs : List Loc) (ls : Array Slot), (0 ≤ pos ∧ pos ≤ tk + 1) → (fr (fun x y => CF x) μ0 μ) → (∀ c : Nat, (c : Int) < pos → cOK μ c) → (100 - pos).toNat < n9 → va_P (dC, dI) vwCl (fw (mE cI cZ cII cIII h0) h0 6325 μ) H → va_S (fA h0 6325 s.heap.size) s.heap H locs → lv_has ls 6 [(2, .int (iZ (pos))), (1, .int (iZ (tk))), (0, .ref h0)] → W p l e R s m args below meth c H locs cells slots Q (F0 m 37 ls []) := by
  intro n9
  induction n9 with
  | zero => intro pos μ H locs ls hpos hf hc hm9 hP hS hl; exact absurd hm9 (Nat.not_lt_zero _)
  | succ n9 ih =>
    intro pos μ H locs ls hpos hf hc hm9 hP hS hl
    have hO1 : stOK μ := stOK_fr hO hf (fun x y hh => by unfold CF at hh; omega)
    have e39 : μ 0 39 = μ0 0 39 := hf 0 39 (by unfold CF; omega)
    have hb1 := hO.1
    have hb2 := hO.2.1
    refine lv_iload_n hx hb dX10_derived_37 rfl (lv_at hl 0 rfl) ?_
    refine lv_iload_n hx hb dX10_derived_38 rfl (lv_at hl 1 rfl) ?_
    refine fz_icmp_gt (tgt := 186) (by constructor <;> omega) (by constructor <;> omega) hx hb dX10_derived_39 (by decide) (fun c39_ => ?_) (fun c39_ => ?_)
    · exact hexit186 (pos) μ H locs ls (by exact hf) (by exact hc tk.toNat (by omega)) hP hS (lv_sub hl [1, 2] rfl)
    · refine lv_iconst (v := iZ 0) hx hb dX10_derived_42 rfl ?_
      refine lv_istore_n (lv' := [(3, .int (iZ (0))), (2, .int (iZ (pos))), (1, .int (iZ (tk))), (0, .ref h0)]) hx hb dX10_derived_43 rfl hl (by decide) rfl (fun ls hl => ?_)
      refine LX10_derived_44 hx hb hml hown hts hK hRf hRl hRc hRs (μ) (tk) (pos) (by exact hO1) (by omega) ?_ _ (0) μ H locs ls (by omega) (by exact fr_rfl) (by intro x hx; omega) (Nat.lt_succ_self _) hP hS (lv_sub hl [0, 1, 2, 3] rfl)
      · intro q_14 μ14_ H locs ls q1_14 q2_14 hP hS hl
        have hl : lv_has ls 6 [(2, .int (iZ (pos))), (1, .int (iZ (tk))), (0, .ref h0)] := hl
        have k39 : μ14_ 0 39 = μ0 0 39 := (q1_14 0 39 (colF_n (by omega))).trans e39
        refine lv_aload_n hx hb dX10_derived_67 rfl (lv_at hl 2 rfl) ?_
        refine fz_get (D := (dC, dI)) (ci := 10) (v := .ref (h0 + 4415)) (C := RX10) (T := TX10) (N := 53) hx hb hts inG10 hown hK hP (k := 0) (by decide) (F := mF h0) mE_obj rfl 43 (by decide) (hts _ k1209) (fun _ h9 => h9) rfl dX10_derived_68 ?_
        refine lv_aload_n hx hb dX10_derived_71 rfl (lv_at hl 2 rfl) ?_
        refine fz_get (D := (dC, dI)) (ci := 10) (v := .int (iZ (μ14_ 0 39))) (C := RX10) (T := TX10) (N := 53) hx hb hts inG10 hown hK hP (k := 0) (by decide) (F := mF h0) mE_obj rfl 39 (by decide) (hts _ k1205) (fun _ h9 => h9) rfl dX10_derived_72 ?_
        rw [show μ14_ 0 39 = μ0 0 39 from (by exact k39)]
        refine fz_ald (k := 4415) (n := 1900) (k2 := (4416 + (μ0 0 39).toNat)) hx hb hK hP 2 rfl (by decide) mE_can rfl ⟨by omega, by omega⟩ (by decide) (if_pos (by omega)) dX10_derived_75 ?_
        refine lv_iload_n hx hb dX10_derived_76 rfl (lv_at hl 0 rfl) ?_
        refine lv_iload_n hx hb dX10_derived_77 rfl (lv_at hl 0 rfl) ?_
        refine fz_if_ne (tgt := 85) (by constructor <;> omega) hx hb dX10_derived_78 (by decide) (fun c78_ => ?_) (fun c78_ => ?_)
        · refine lv_iconst (v := iZ 0) hx hb dX10_derived_85 rfl ?_
          refine fz_st (k := (4416 + (μ0 0 39).toNat)) (n := 62) (i := pos) (z := 0) hx hb hK hP fA_in hS 0 (by omega) (mE_canR (by omega)) rfl ⟨by omega, by omega⟩ (by decide) dX10_derived_86 (fun H locs hP hS => ?_)
          obtain ⟨μ15, eμ15⟩ : ∃ x : va_M, x = uz μ14_ (4416 + (μ0 0 39).toNat) (pos).toNat (0) := ⟨_, rfl⟩
          rw [← eμ15] at hP
          refine lv_iconst (v := iZ 1) hx hb dX10_derived_87 rfl ?_
          refine lv_istore_n (lv' := [(3, .int (iZ (1))), (2, .int (iZ (pos))), (1, .int (iZ (tk))), (0, .ref h0)]) hx hb dX10_derived_88 rfl hl (by decide) rfl (fun ls hl => ?_)
          refine LX10_derived_89 hx hb hml hown hts hK hRf hRl hRc hRs (μ) (tk) (pos) (by exact hO1) (by omega) (by
                            intro h9
                            exact hc (pos.toNat - 1) (by omega)) ?_ _ (1) μ15 H locs ls (by
                            first
                              | (subst eμ15
                                 have z39 : ∀ v, uz μ14_ (4416 + (μ0 0 39).toNat) pos.toNat v 0 39 = μ0 0 39 := fun v => by rw [uz_n (by omega)]; exact k39
                                 have zc : ∀ v : Int, 0 ≤ v → v ≤ 1 → ∀ x : Nat, (x : Int) ≤ μ0 0 39 → 0 ≤ uz μ14_ (4416 + (μ0 0 39).toNat) pos.toNat v (4416 + x) pos.toNat ∧ uz μ14_ (4416 + (μ0 0 39).toNat) pos.toNat v (4416 + x) pos.toNat ≤ 1000000000 := fun v h1 h2 x hx => by
                                   by_cases h9 : x = (μ0 0 39).toNat
                                   · subst h9; rw [uz_s]; omega
                                   · rw [uz_n (by omega), q2_14 x (by omega)]; omega
                                 have zf : ∀ v, fr (colF pos.toNat) μ (uz μ14_ (4416 + (μ0 0 39).toNat) pos.toNat v) := fun v => fr_uz q1_14 ⟨by unfold CF; omega, rfl⟩
                                 have zO : ∀ v, stOK (uz μ14_ (4416 + (μ0 0 39).toNat) pos.toNat v) := fun v => stOK_fr hO1 (zf v) (fun x y hh => by unfold colF CF at hh; omega)
                                 refine ⟨zf _, fun x hx => ?_, fun x hx => ?_⟩
                                 · rw [z39] at hx
                                   have hcz : cOK (uz μ14_ (4416 + (μ0 0 39).toNat) pos.toNat 1) pos.toNat := fun y hy => zc _ (by omega) (by omega) y (by rw [z39] at hy; exact hy)
                                   have hTT : 0 ≤ tkd μ pos.toNat x ∧ tkd μ pos.toNat x ≤ 1000000000 := by
                                     unfold tkd
                                     split
                                     · omega
                                     · exact hc (pos.toNat - 1) (by omega) (x + 1) (by omega)
                                   have hwr := wF_rng (q := x) (tk := tkd μ pos.toNat x) (zO 1) (by rw [z39]; exact hx) hcz hTT
                                   rw [uz_n (by omega), q2_14 x (by omega)]
                                   exact hwr.1
                                 · rw [z39] at hx
                                   exact zc _ (by omega) (by omega) x hx)
                              | (subst eμ15
                                 have z39 : ∀ v, uz μ14_ (4416 + (μ0 0 39).toNat) pos.toNat v 0 39 = μ0 0 39 := fun v => by rw [uz_n (by omega)]; exact k39
                                 have zc : ∀ v : Int, 0 ≤ v → v ≤ 1 → ∀ x : Nat, (x : Int) ≤ μ0 0 39 → 0 ≤ uz μ14_ (4416 + (μ0 0 39).toNat) pos.toNat v (4416 + x) pos.toNat ∧ uz μ14_ (4416 + (μ0 0 39).toNat) pos.toNat v (4416 + x) pos.toNat ≤ 1000000000 := fun v h1 h2 x hx => by
                                   by_cases h9 : x = (μ0 0 39).toNat
                                   · subst h9; rw [uz_s]; omega
                                   · rw [uz_n (by omega), q2_14 x (by omega)]; omega
                                 have zf : ∀ v, fr (colF pos.toNat) μ (uz μ14_ (4416 + (μ0 0 39).toNat) pos.toNat v) := fun v => fr_uz q1_14 ⟨by unfold CF; omega, rfl⟩
                                 have zO : ∀ v, stOK (uz μ14_ (4416 + (μ0 0 39).toNat) pos.toNat v) := fun v => stOK_fr hO1 (zf v) (fun x y hh => by unfold colF CF at hh; omega)
                                 refine ⟨zf _, fun x hx => ?_, fun x hx => ?_⟩
                                 · rw [z39] at hx
                                   have hcz : cOK (uz μ14_ (4416 + (μ0 0 39).toNat) pos.toNat 0) pos.toNat := fun y hy => zc _ (by omega) (by omega) y (by rw [z39] at hy; exact hy)
                                   have hTT : 0 ≤ tkd μ pos.toNat x ∧ tkd μ pos.toNat x ≤ 1000000000 := by
                                     unfold tkd
                                     split
                                     · omega
                                     · exact hc (pos.toNat - 1) (by omega) (x + 1) (by omega)
                                   have hwr := wF_rng (q := x) (tk := tkd μ pos.toNat x) (zO 0) (by rw [z39]; exact hx) hcz hTT
                                   rw [uz_n (by omega), q2_14 x (by omega)]
                                   exact hwr.1
                                 · rw [z39] at hx
                                   exact zc _ (by omega) (by omega) x hx)) (by exact Or.inr rfl) (Nat.lt_succ_self _) hP hS (lv_sub hl [0, 1, 2, 3] rfl)
          · intro mv_16 μ16_ H locs ls q5_16 q6_16 hP hS hl
            have hl : lv_has ls 6 [(2, .int (iZ (pos))), (1, .int (iZ (tk))), (0, .ref h0)] := hl
            refine lv_iinc (v := iZ (pos + 1)) (lv' := [(2, .int (iZ (pos + 1))), (1, .int (iZ (tk))), (0, .ref h0)]) hx hb dX10_derived_180 hl (k := 0) rfl (iZ_add _ _) (by decide) rfl (fun ls hl => ?_)
            refine lv_goto (tgt := 37) hx hb dX10_derived_183 (by decide) ?_
            exact ih (pos + 1) μ16_ H locs ls (by omega) (by exact fr_trans hf (fr_mono q5_16 (fun x y h => h.1))) (by
                                intro c h1
                                by_cases h9 : c = pos.toNat
                                · subst h9; exact q6_16
                                · exact cOK_fr (hc c (by omega)) q5_16 (colF_n (by omega)) (fun x => colF_n (by omega))) (by omega) hP hS (lv_sub hl [0, 1, 2] rfl)
        · refine lv_iconst (v := iZ 1) hx hb dX10_derived_81 rfl ?_
          refine lv_goto (tgt := 86) hx hb dX10_derived_82 (by decide) ?_
          refine fz_st (k := (4416 + (μ0 0 39).toNat)) (n := 62) (i := pos) (z := 1) hx hb hK hP fA_in hS 0 (by omega) (mE_canR (by omega)) rfl ⟨by omega, by omega⟩ (by decide) dX10_derived_86 (fun H locs hP hS => ?_)
          obtain ⟨μ17, eμ17⟩ : ∃ x : va_M, x = uz μ14_ (4416 + (μ0 0 39).toNat) (pos).toNat (1) := ⟨_, rfl⟩
          rw [← eμ17] at hP
          refine lv_iconst (v := iZ 1) hx hb dX10_derived_87 rfl ?_
          refine lv_istore_n (lv' := [(3, .int (iZ (1))), (2, .int (iZ (pos))), (1, .int (iZ (tk))), (0, .ref h0)]) hx hb dX10_derived_88 rfl hl (by decide) rfl (fun ls hl => ?_)
          refine LX10_derived_89 hx hb hml hown hts hK hRf hRl hRc hRs (μ) (tk) (pos) (by exact hO1) (by omega) (by
                            intro h9
                            exact hc (pos.toNat - 1) (by omega)) ?_ _ (1) μ17 H locs ls (by
                            first
                              | (subst eμ17
                                 have z39 : ∀ v, uz μ14_ (4416 + (μ0 0 39).toNat) pos.toNat v 0 39 = μ0 0 39 := fun v => by rw [uz_n (by omega)]; exact k39
                                 have zc : ∀ v : Int, 0 ≤ v → v ≤ 1 → ∀ x : Nat, (x : Int) ≤ μ0 0 39 → 0 ≤ uz μ14_ (4416 + (μ0 0 39).toNat) pos.toNat v (4416 + x) pos.toNat ∧ uz μ14_ (4416 + (μ0 0 39).toNat) pos.toNat v (4416 + x) pos.toNat ≤ 1000000000 := fun v h1 h2 x hx => by
                                   by_cases h9 : x = (μ0 0 39).toNat
                                   · subst h9; rw [uz_s]; omega
                                   · rw [uz_n (by omega), q2_14 x (by omega)]; omega
                                 have zf : ∀ v, fr (colF pos.toNat) μ (uz μ14_ (4416 + (μ0 0 39).toNat) pos.toNat v) := fun v => fr_uz q1_14 ⟨by unfold CF; omega, rfl⟩
                                 have zO : ∀ v, stOK (uz μ14_ (4416 + (μ0 0 39).toNat) pos.toNat v) := fun v => stOK_fr hO1 (zf v) (fun x y hh => by unfold colF CF at hh; omega)
                                 refine ⟨zf _, fun x hx => ?_, fun x hx => ?_⟩
                                 · rw [z39] at hx
                                   have hcz : cOK (uz μ14_ (4416 + (μ0 0 39).toNat) pos.toNat 1) pos.toNat := fun y hy => zc _ (by omega) (by omega) y (by rw [z39] at hy; exact hy)
                                   have hTT : 0 ≤ tkd μ pos.toNat x ∧ tkd μ pos.toNat x ≤ 1000000000 := by
                                     unfold tkd
                                     split
                                     · omega
                                     · exact hc (pos.toNat - 1) (by omega) (x + 1) (by omega)
                                   have hwr := wF_rng (q := x) (tk := tkd μ pos.toNat x) (zO 1) (by rw [z39]; exact hx) hcz hTT
                                   rw [uz_n (by omega), q2_14 x (by omega)]
                                   exact hwr.1
                                 · rw [z39] at hx
                                   exact zc _ (by omega) (by omega) x hx)
                              | (subst eμ17
                                 have z39 : ∀ v, uz μ14_ (4416 + (μ0 0 39).toNat) pos.toNat v 0 39 = μ0 0 39 := fun v => by rw [uz_n (by omega)]; exact k39
                                 have zc : ∀ v : Int, 0 ≤ v → v ≤ 1 → ∀ x : Nat, (x : Int) ≤ μ0 0 39 → 0 ≤ uz μ14_ (4416 + (μ0 0 39).toNat) pos.toNat v (4416 + x) pos.toNat ∧ uz μ14_ (4416 + (μ0 0 39).toNat) pos.toNat v (4416 + x) pos.toNat ≤ 1000000000 := fun v h1 h2 x hx => by
                                   by_cases h9 : x = (μ0 0 39).toNat
                                   · subst h9; rw [uz_s]; omega
                                   · rw [uz_n (by omega), q2_14 x (by omega)]; omega
                                 have zf : ∀ v, fr (colF pos.toNat) μ (uz μ14_ (4416 + (μ0 0 39).toNat) pos.toNat v) := fun v => fr_uz q1_14 ⟨by unfold CF; omega, rfl⟩
                                 have zO : ∀ v, stOK (uz μ14_ (4416 + (μ0 0 39).toNat) pos.toNat v) := fun v => stOK_fr hO1 (zf v) (fun x y hh => by unfold colF CF at hh; omega)
                                 refine ⟨zf _, fun x hx => ?_, fun x hx => ?_⟩
                                 · rw [z39] at hx
                                   have hcz : cOK (uz μ14_ (4416 + (μ0 0 39).toNat) pos.toNat 0) pos.toNat := fun y hy => zc _ (by omega) (by omega) y (by rw [z39] at hy; exact hy)
                                   have hTT : 0 ≤ tkd μ pos.toNat x ∧ tkd μ pos.toNat x ≤ 1000000000 := by
                                     unfold tkd
                                     split
                                     · omega
                                     · exact hc (pos.toNat - 1) (by omega) (x + 1) (by omega)
                                   have hwr := wF_rng (q := x) (tk := tkd μ pos.toNat x) (zO 0) (by rw [z39]; exact hx) hcz hTT
                                   rw [uz_n (by omega), q2_14 x (by omega)]
                                   exact hwr.1
                                 · rw [z39] at hx
                                   exact zc _ (by omega) (by omega) x hx)) (by exact Or.inr rfl) (Nat.lt_succ_self _) hP hS (lv_sub hl [0, 1, 2, 3] rfl)
          · intro mv_18 μ18_ H locs ls q5_18 q6_18 hP hS hl
            have hl : lv_has ls 6 [(2, .int (iZ (pos))), (1, .int (iZ (tk))), (0, .ref h0)] := hl
            refine lv_iinc (v := iZ (pos + 1)) (lv' := [(2, .int (iZ (pos + 1))), (1, .int (iZ (tk))), (0, .ref h0)]) hx hb dX10_derived_180 hl (k := 0) rfl (iZ_add _ _) (by decide) rfl (fun ls hl => ?_)
            refine lv_goto (tgt := 37) hx hb dX10_derived_183 (by decide) ?_
            exact ih (pos + 1) μ18_ H locs ls (by omega) (by exact fr_trans hf (fr_mono q5_18 (fun x y h => h.1))) (by
                                intro c h1
                                by_cases h9 : c = pos.toNat
                                · subst h9; exact q6_18
                                · exact cOK_fr (hc c (by omega)) q5_18 (colF_n (by omega)) (fun x => colF_n (by omega))) (by omega) hP hS (lv_sub hl [0, 1, 2] rfl)
set_option maxHeartbeats 4000000 in
set_option maxRecDepth 100000 in
theorem m_derived (l : Launch) (dC : Nat → ClassId) (dI : Nat → Nat → Nat) (cI cZ cII cIII : ClassId) (h0 sz : Nat) (μ : va_M) (tk : Int) (hQ : RQ μ) (hk9 : inR tk) : Met l yX10_derived (Cond.code yX10_derived cX10_derived 6 (some .int) :: wsG) ({ frames := 5, cells := 0, slots := 0, locals := 120 } : Room) (va_Pc [.ref h0, .int (iZ (tk))] (fun U => U.heap.size = sz ∧ va_P (dC, dI) vwCl (fw (mE cI cZ cII cIII h0) h0 6325 μ) U.heap ∧ va_K (dC, dI) vwCl (mT cI cZ cII cIII) U)) (va_Qi (fun (r9 : Int32) (u : va_M × Int) => r9 = iZ u.2 ∧ (fun (u : va_M) (r : Int) => fr PS μ u ∧ (u 0 0 = 0 ∨ u 0 0 = 1 ∨ u 0 0 = 2)) u.1 u.2) (fun u t => va_P (dC, dI) vwCl (fw (mE cI cZ cII cIII h0) h0 6325 u.1) t.heap ∧ va_K (dC, dI) vwCl (mT cI cZ cII cIII) t) (fA h0 6325 sz)) 0 0 (fA h0 6325 sz) := by
  refine Met.ofW (cc := cX10_derived) (maxL := 6) (ret := (some .int)) (by decide) rfl ?_
  intro p e s m args below meth c s₁ B hml hv
  obtain ⟨rfl, hsz, hP, hK⟩ := hv
  have hx := B.exec
  have hb := B.bytes
  have hr := B.returns
  have hts : ∀ w ∈ wsG, w.before _ s = true := hG_of (atoms_spec (ws := (Cond.code yX10_derived cX10_derived 6 (some .int) :: wsG)) B.pre)
  have hown : s.vm.findClass RX10 = some m.cls := findClass_of_methodNamed B.named
  have hlocks := B.notSynchronized
  subst hsz
  have hS : va_S (fA h0 6325 s.heap.size) s.heap s.heap [] := va_S.rf
  have hl := lv_entry ([.ref h0, .int (iZ (tk))]) (n := 6) (Nat.le_of_ble_eq_true rfl)
  rw [lg_entry_eq]
  generalize (lg_sl ([.ref h0, .int (iZ (tk))]) ++ List.replicate (6 - (lg_sl ([.ref h0, .int (iZ (tk))])).length) Slot.unset).toArray = ls at hl ⊢
  have hl : lv_has ls 6 [(0, .ref h0), (1, .int (iZ (tk)))] := hl
  refine lv_aload_n hx hb dX10_derived_0 rfl (lv_at hl 0 rfl) ?_
  refine lv_iconst (v := iZ 0) hx hb dX10_derived_1 rfl ?_
  refine fz_put (D := (dC, dI)) (ci := 10) (ty := .int) (z := 0) (C := RX10) (T := TX10) (N := 53) hx hb hts inG10 tyX10 tyX10_ok nmX10 hown hK hP fA_in hS (k := 0) (by decide) (F := mF h0) mE_obj rfl 0 (by decide) (hts _ k1166) (fun _ h9 => h9) rfl (by decide +kernel) rfl rfl (fun _ => Nat.le_of_ble_eq_true rfl) (fun _ _ => rfl) dX10_derived_2 (fun H locs hP hS => ?_)
  obtain ⟨μ19, eμ19⟩ : ∃ x : va_M, x = uz μ 0 0 (0) := ⟨_, rfl⟩
  rw [← eμ19] at hP
  have hfr : fr PS μ μ19 := by rw [eμ19]; exact fr_uz fr_rfl (by unfold PS; omega)
  have ht0 : μ19 0 0 = 0 := by rw [eμ19, uz_s]
  have e10 := hfr 0 10 (PS_n (by omega))
  have e9 := hfr 0 9 (PS_n (by omega))
  have e71 := hfr 719 0 (PS_n (by omega))
  have hQ1 := RQ_fr hQ hfr
  have hQc := hQ
  obtain ⟨f10, ⟨fT, fTb, fTw⟩, fS3, fPg, fw9, fwB, fwT⟩ := hQc
  obtain ⟨g10, ⟨gT, gTb, gTw⟩, gS3, gPg, gw, gwB, gwT⟩ := hQ1
  have gtk := TR_tok gwT gwB.1 gwB.2.1
  have gt1 := gtk.1
  have gt2 := gtk.2.1
  refine lv_aload_n hx hb dX10_derived_5 rfl (lv_at hl 0 rfl) ?_
  refine lv_iload_n hx hb dX10_derived_6 rfl (lv_at hl 1 rfl) ?_
  refine lv_iconst (v := iZ 0) hx hb dX10_derived_7 rfl ?_
  refine lv_bipush (v := iZ 60) hx hb dX10_derived_8 rfl ?_
  refine va_calli (va_runS (As := [.int (iZ (tk)), .int (iZ (0)), .int (iZ (60))]) (rest := [.ref h0]) ⟨hx, hb, hml, hown, hts⟩ (m_in l dC dI cI cZ cII cIII h0 H.size μ19 (tk) (0) (60) (by first | assumption | omega | exact ⟨by omega, by omega⟩) (by first | assumption | omega | exact ⟨by omega, by omega⟩) (by first | assumption | omega | exact ⟨by omega, by omega⟩)) (cwS 3 hts (gS_G k1335 k1336 k13 k1337) rfl rfl rfl (by decide +kernel) ⟨Nat.le_of_ble_eq_true rfl, Nat.le_of_ble_eq_true rfl⟩) ⟨fun a U g mk q => by obtain ⟨q0, q1, qP, qK⟩ := q; exact ⟨q0, q1, qP, va_K.moved (u := U) (U := U.calling g mk a) (Vm.Alike.refl U.vm) qK⟩, fun U hU hW => ⟨rfl, by rw [hU], by rw [hU]; exact hP, va_K.moved hW.alike hK⟩⟩ rfl rfl hl.1 rfl (lv_room (Nat.le_of_ble_eq_true rfl)) dX10_derived_10 ⟨Nat.le_of_ble_eq_true rfl, Nat.le_of_ble_eq_true rfl⟩) hS (fun q _ h => fA_le hS.1 q h) (fA_le hS.1) (fun r9 u9 t9 H1 locs ht9 hvm9 hw9 hB9 hz9 hk9 hS => ?_)
  obtain ⟨μ20, r21⟩ := u9
  obtain ⟨hP, -⟩ := hB9
  rw [ht9] at hP
  generalize H1 = H at hP hS ⊢
  obtain ⟨e9, hw9⟩ := hw9
  have e9 : r9 = iZ r21 := e9
  subst e9
  simp only at hP hw9
  have hμ20 := hw9; clear hw9
  rw [hμ20.1] at hP; have hμ20 := hμ20.2
  have hin := hμ20
  have hin2 := if_01 hμ20
  refine fz_if_ne (tgt := 20) (by constructor <;> omega) hx hb dX10_derived_13 (by decide) (fun c13_ => ?_) (fun c13_ => ?_)
  · have hkk := if_get hin (by omega)
    refine lv_iconst (v := iZ 0) hx hb dX10_derived_20 rfl ?_
    refine lv_iconst (v := iZ 1) hx hb dX10_derived_21 rfl ?_
    refine lv_iconst (v := iZ 1) hx hb dX10_derived_22 rfl ?_
    refine va_calli (va_runV (As := [.int (iZ (0)), .int (iZ (1)), .int (iZ (1))]) (rest := []) ⟨hx, hb, hml, hown, hts⟩ (m_bad2 l dC dI cI cZ cII cIII h0 H.size μ19 (0) (1) (1) (by first | assumption | omega | exact ⟨by omega, by omega⟩) (by first | assumption | omega | exact ⟨by omega, by omega⟩) (by first | assumption | omega | exact ⟨by omega, by omega⟩) (by first | assumption | omega | exact ⟨by omega, by omega⟩)) (cwV 3 hts (gV_G k1338 k1340 ks_yX10_bad k13 k1341) rfl rfl rfl (by decide +kernel) ⟨Nat.le_of_ble_eq_true rfl, Nat.le_of_ble_eq_true rfl⟩) ⟨fun a U g mk q => by obtain ⟨q0, q1, qP, qK⟩ := q; exact ⟨q0, q1, qP, va_K.moved (u := U) (U := U.calling g mk a) (Vm.Alike.refl U.vm) qK⟩, va_recv hK hP (ci := 10) (q0 := 0) rfl ((fw_get (by decide)).trans (by rw [mE_obj]; rfl)), fun U hU hW => ⟨rfl, by rw [hU], by rw [hU]; exact hP, va_K.moved hW.alike hK⟩⟩ rfl rfl hl.1 rfl (lv_room (Nat.le_of_ble_eq_true rfl)) dX10_derived_23 ⟨Nat.le_of_ble_eq_true rfl, Nat.le_of_ble_eq_true rfl⟩) hS (fun q _ h => fA_le hS.1 q h) (fA_le hS.1) (fun r9 u9 t9 H1 locs ht9 hvm9 hw9 hB9 hz9 hk9 hS => ?_)
    obtain ⟨μ22, r23⟩ := u9
    obtain ⟨hP, -⟩ := hB9
    rw [ht9] at hP
    generalize H1 = H at hP hS ⊢
    obtain ⟨e9, hw9⟩ := hw9
    have e9 : r9 = iZ r23 := e9
    subst e9
    simp only at hP hw9
    have hμ22 := hw9; clear hw9
    have hfr := fr_trans hfr (badP_fr hμ22)
    have hrb := badP_r hμ22
    obtain rfl : r23 = 0 := by omega
    refine fz_if_eq (tgt := 31) (by decide) hx hb dX10_derived_26 (by decide) (fun c26_ => ?_) (fun h9 => absurd h9 (by decide))
    have hQ2 := RQ_fr hQ hfr
    obtain ⟨k10, ⟨kT, kTb, kTw⟩, kS3, kPg, kw, kwB, kwT⟩ := hQ2
    have e10k := hfr 0 10 (PS_n (by omega))
    have e9k := hfr 0 9 (PS_n (by omega))
    have e71k := hfr 719 0 (PS_n (by omega))
    have ktk := TR_tok kwT kwB.1 kwB.2.1
    have kt1 := ktk.1
    have kt2 := ktk.2.1
    refine lv_aload_n hx hb dX10_derived_31 rfl (lv_at hl 0 rfl) ?_
    refine va_callv (va_runV (As := []) (rest := []) ⟨hx, hb, hml, hown, hts⟩ (m_laysStates l dC dI cI cZ cII cIII h0 H.size μ22 (kw) (by exact kwT) (by exact kwB.1) (by exact kwB.2.1)) (cwV 0 hts (gV_G k1504 k1506 ks_yX10_laysStates k13 k1507) rfl rfl rfl (by decide +kernel) ⟨Nat.le_of_ble_eq_true rfl, Nat.le_of_ble_eq_true rfl⟩) ⟨fun a U g mk q => by obtain ⟨q0, q1, qP, qK⟩ := q; exact ⟨q0, q1, qP, va_K.moved (u := U) (U := U.calling g mk a) (Vm.Alike.refl U.vm) qK⟩, va_recv hK hP (ci := 10) (q0 := 0) rfl ((fw_get (by decide)).trans (by rw [mE_obj]; rfl)), fun U hU hW => ⟨rfl, by rw [hU], by rw [hU]; exact hP, va_K.moved hW.alike hK⟩⟩ rfl rfl hl.1 rfl (lv_room (Nat.le_of_ble_eq_true rfl)) dX10_derived_32 ⟨Nat.le_of_ble_eq_true rfl, Nat.le_of_ble_eq_true rfl⟩) hS (fun q _ h => fA_le hS.1 q h) (fA_le hS.1) (fun u9 t9 H1 locs ht9 hvm9 hw9 hB9 hz9 hk9 hS => ?_)
    obtain ⟨hP, -⟩ := hB9
    rw [ht9] at hP
    generalize H1 = H at hP hS ⊢
    obtain ⟨μa, eμa⟩ : ∃ x : va_M, x = u9 := ⟨_, rfl⟩
    rw [← eμa] at hP hw9
    have hμa := hw9; clear hw9
    obtain ⟨s1, s2, s3⟩ := hμa
    have hTa : TR μa 0 kw := TR_fr kwT s1 (fun x => by unfold SF; omega) (by unfold SF; omega)
    have hOa := stOK_of hTa kwB.1 kwB.2.1 s2 s3
    refine lv_iconst (v := iZ 0) hx hb dX10_derived_35 rfl ?_
    refine lv_istore_n (lv' := [(2, .int (iZ (0))), (0, .ref h0), (1, .int (iZ (tk)))]) hx hb dX10_derived_36 rfl hl (by decide) rfl (fun ls hl => ?_)
    refine LX10_derived_37 hx hb hml hown hts hK (Nat.le_of_ble_eq_true rfl) (Nat.le_of_ble_eq_true rfl) (Nat.le_of_ble_eq_true rfl) (Nat.le_of_ble_eq_true rfl) (μa) (tk) (by exact hOa) (by assumption) ?_ _ (0) μa H locs ls (by omega) (by exact fr_rfl) (by intro c h1; omega) (Nat.lt_succ_self _) hP hS (lv_sub hl [0, 2, 1] rfl)
    · intro pos_24 μ24_ H locs ls q7_24 q8_24 hP hS hl
      have hl : lv_has ls 6 [(1, .int (iZ (tk))), (0, .ref h0)] := hl
      refine lv_aload_n hx hb dX10_derived_186 rfl (lv_at hl 1 rfl) ?_
      refine fz_get (D := (dC, dI)) (ci := 10) (v := .ref (h0 + 4415)) (C := RX10) (T := TX10) (N := 53) hx hb hts inG10 hown hK hP (k := 0) (by decide) (F := mF h0) mE_obj rfl 43 (by decide) (hts _ k1209) (fun _ h9 => h9) rfl dX10_derived_187 ?_
      refine lv_iconst (v := iZ 0) hx hb dX10_derived_190 rfl ?_
      refine fz_ald (k := 4415) (n := 1900) (k2 := (4416 + 0)) hx hb hK hP 2 rfl (by decide) mE_can rfl ⟨by omega, by omega⟩ (by decide) (if_pos (by omega)) dX10_derived_191 ?_
      refine lv_iload_n hx hb dX10_derived_192 rfl (lv_at hl 0 rfl) ?_
      refine fz_ld (k := (4416 + 0)) (n := 62) hx hb hK hP 0 (by omega) (mE_canR (by omega)) rfl ⟨by omega, by omega⟩ (by decide) dX10_derived_193 ?_
      exact W.iret (v := iZ (μ24_ (4416 + 0) (tk).toNat)) hx hb hr (fun t9 ht9 hW9 => ⟨⟨iZ (μ24_ (4416 + 0) (tk).toNat), (μ24_, μ24_ (4416 + 0) (tk).toNat), rfl, ⟨rfl, (by
                    dsimp only
                    have ff := fr_trans (fr_mono s1 (fun _ _ h => SF_PS h)) (fr_mono q7_24 (fun x y h => SW_PS (Or.inr h)))
                    have e00 := (q7_24 0 0 (by unfold CF; omega)).trans (s1 0 0 (by unfold SF; omega))
                    exact ⟨fr_trans hfr ff, by omega⟩)⟩, by rw [ht9]; exact hP, va_K.moved hW9.alike hK⟩, hS.F ht9⟩) hS.2.2 dX10_derived_194
  · refine lv_iconst (v := iZ 1) hx hb dX10_derived_16 rfl ?_
    refine lv_goto (tgt := 21) hx hb dX10_derived_17 (by decide) ?_
    refine lv_iconst (v := iZ 1) hx hb dX10_derived_21 rfl ?_
    refine lv_iconst (v := iZ 1) hx hb dX10_derived_22 rfl ?_
    refine va_calli (va_runV (As := [.int (iZ (1)), .int (iZ (1)), .int (iZ (1))]) (rest := []) ⟨hx, hb, hml, hown, hts⟩ (m_bad2 l dC dI cI cZ cII cIII h0 H.size μ19 (1) (1) (1) (by first | assumption | omega | exact ⟨by omega, by omega⟩) (by first | assumption | omega | exact ⟨by omega, by omega⟩) (by first | assumption | omega | exact ⟨by omega, by omega⟩) (by first | assumption | omega | exact ⟨by omega, by omega⟩)) (cwV 3 hts (gV_G k1338 k1340 ks_yX10_bad k13 k1341) rfl rfl rfl (by decide +kernel) ⟨Nat.le_of_ble_eq_true rfl, Nat.le_of_ble_eq_true rfl⟩) ⟨fun a U g mk q => by obtain ⟨q0, q1, qP, qK⟩ := q; exact ⟨q0, q1, qP, va_K.moved (u := U) (U := U.calling g mk a) (Vm.Alike.refl U.vm) qK⟩, va_recv hK hP (ci := 10) (q0 := 0) rfl ((fw_get (by decide)).trans (by rw [mE_obj]; rfl)), fun U hU hW => ⟨rfl, by rw [hU], by rw [hU]; exact hP, va_K.moved hW.alike hK⟩⟩ rfl rfl hl.1 rfl (lv_room (Nat.le_of_ble_eq_true rfl)) dX10_derived_23 ⟨Nat.le_of_ble_eq_true rfl, Nat.le_of_ble_eq_true rfl⟩) hS (fun q _ h => fA_le hS.1 q h) (fA_le hS.1) (fun r9 u9 t9 H1 locs ht9 hvm9 hw9 hB9 hz9 hk9 hS => ?_)
    obtain ⟨μ25, r26⟩ := u9
    obtain ⟨hP, -⟩ := hB9
    rw [ht9] at hP
    generalize H1 = H at hP hS ⊢
    obtain ⟨e9, hw9⟩ := hw9
    have e9 : r9 = iZ r26 := e9
    subst e9
    simp only at hP hw9
    have hμ25 := hw9; clear hw9
    have hfr := fr_trans hfr (badP_fr hμ25)
    have hrb := badP_r hμ25
    obtain rfl : r26 = 1 := by omega
    refine fz_if_eq (tgt := 31) (by decide) hx hb dX10_derived_26 (by decide) (fun h9 => absurd h9 (by decide)) (fun c26_ => ?_)
    refine lv_iconst (v := iZ 0) hx hb dX10_derived_29 rfl ?_
    exact W.iret (v := iZ (0)) hx hb hr (fun t9 ht9 hW9 => ⟨⟨iZ (0), (μ25, 0), rfl, ⟨rfl, (by
                dsimp only
                exact ⟨hfr, by omega⟩)⟩, by rw [ht9]; exact hP, va_K.moved hW9.alike hK⟩, hS.F ht9⟩) hS.2.2 dX10_derived_30

theorem k1342 : (Cond.methodLink "PageSkeletonModel" (184 : Nat) ({ cls := "PageSkeletonModel", name := "blanks", desc := "()I" } : MethodName)) ∈ wsG := wsG_at 1342 (by decide +kernel) (by decide +kernel)
theorem k1344 : (Cond.instanceMethod ({ cls := "PageSkeletonModel", name := "blanks", desc := "()I" } : MethodName)) ∈ wsG := wsG_at 1344 (by decide +kernel) (by decide +kernel)
theorem k1345 : (Cond.code ({ cls := "PageSkeletonModel", name := "blanks", desc := "()I" } : MethodName) prog_12_method_11_code (1 : Nat) (Option.some FieldType.int)) ∈ wsG := wsG_at 1345 (by decide +kernel) (by decide +kernel)
theorem k1357 : (Cond.methodLink "PageSkeletonModel" (187 : Nat) ({ cls := "PageSkeletonModel", name := "readsToken", desc := "()I" } : MethodName)) ∈ wsG := wsG_at 1357 (by decide +kernel) (by decide +kernel)
theorem k1359 : (Cond.instanceMethod ({ cls := "PageSkeletonModel", name := "readsToken", desc := "()I" } : MethodName)) ∈ wsG := wsG_at 1359 (by decide +kernel) (by decide +kernel)
theorem k1360 : (Cond.code ({ cls := "PageSkeletonModel", name := "readsToken", desc := "()I" } : MethodName) prog_12_method_14_code (4 : Nat) (Option.some FieldType.int)) ∈ wsG := wsG_at 1360 (by decide +kernel) (by decide +kernel)
theorem ks_yX10_blanks : Cond.selects RX10 yX10_blanks yX10_blanks ∈ wsG := wsG_mem (by decide +kernel) (by decide +kernel)
theorem ks_yX10_readsToken : Cond.selects RX10 yX10_readsToken yX10_readsToken ∈ wsG := wsG_mem (by decide +kernel) (by decide +kernel)
theorem dX10_page_88 : decode cX10_page 88 = .ok (.aload_n 0, 1) := by decide +kernel
theorem dX10_page_89 : decode cX10_page 89 = .ok (.getfield 136, 3) := by decide +kernel
theorem dX10_page_92 : decode cX10_page 92 = .ok (.ifCond .ne 96, 3) := by decide +kernel
theorem dX10_page_95 : decode cX10_page 95 = .ok (.aload_n 0, 1) := by decide +kernel
theorem dX10_page_96 : decode cX10_page 96 = .ok (.invokevirtual 184, 3) := by decide +kernel
theorem dX10_page_99 : decode cX10_page 99 = .ok (.iconst (-1), 1) := by decide +kernel
theorem dX10_page_100 : decode cX10_page 100 = .ok (.if_icmp .eq 88, 3) := by decide +kernel
theorem dX10_page_103 : decode cX10_page 103 = .ok (.aload_n 0, 1) := by decide +kernel
theorem dX10_page_104 : decode cX10_page 104 = .ok (.aload_n 0, 1) := by decide +kernel
theorem dX10_page_105 : decode cX10_page 105 = .ok (.getfield 142, 3) := by decide +kernel
theorem dX10_page_108 : decode cX10_page 108 = .ok (.invokevirtual 145, 3) := by decide +kernel
theorem dX10_page_111 : decode cX10_page 111 = .ok (.bipush 60, 2) := by decide +kernel
theorem dX10_page_113 : decode cX10_page 113 = .ok (.if_icmp .eq 29, 3) := by decide +kernel
theorem dX10_page_116 : decode cX10_page 116 = .ok (.aload_n 0, 1) := by decide +kernel
theorem dX10_page_117 : decode cX10_page 117 = .ok (.aload_n 0, 1) := by decide +kernel
theorem dX10_page_118 : decode cX10_page 118 = .ok (.getfield 142, 3) := by decide +kernel
theorem dX10_page_121 : decode cX10_page 121 = .ok (.invokevirtual 145, 3) := by decide +kernel
theorem dX10_page_124 : decode cX10_page 124 = .ok (.invokestatic 155, 3) := by decide +kernel
theorem dX10_page_127 : decode cX10_page 127 = .ok (.ifCond .ne 15, 3) := by decide +kernel
theorem dX10_page_130 : decode cX10_page 130 = .ok (.aload_n 0, 1) := by decide +kernel
theorem dX10_page_131 : decode cX10_page 131 = .ok (.iconst 1, 1) := by decide +kernel
theorem dX10_page_132 : decode cX10_page 132 = .ok (.aload_n 0, 1) := by decide +kernel
theorem dX10_page_133 : decode cX10_page 133 = .ok (.getfield 142, 3) := by decide +kernel
theorem dX10_page_136 : decode cX10_page 136 = .ok (.invokevirtual 159, 3) := by decide +kernel
theorem dX10_page_139 : decode cX10_page 139 = .ok (.goto 18, 3) := by decide +kernel
theorem dX10_page_142 : decode cX10_page 142 = .ok (.iload_n 3, 1) := by decide +kernel
theorem dX10_page_143 : decode cX10_page 143 = .ok (.bipush 60, 2) := by decide +kernel
theorem dX10_page_145 : decode cX10_page 145 = .ok (.if_icmp .ne 12, 3) := by decide +kernel
theorem dX10_page_148 : decode cX10_page 148 = .ok (.aload_n 0, 1) := by decide +kernel
theorem dX10_page_149 : decode cX10_page 149 = .ok (.iconst 2, 1) := by decide +kernel
theorem dX10_page_150 : decode cX10_page 150 = .ok (.aload_n 0, 1) := by decide +kernel
theorem dX10_page_151 : decode cX10_page 151 = .ok (.getfield 142, 3) := by decide +kernel
theorem dX10_page_154 : decode cX10_page 154 = .ok (.invokevirtual 159, 3) := by decide +kernel
theorem dX10_page_157 : decode cX10_page 157 = .ok (.aload_n 0, 1) := by decide +kernel
theorem dX10_page_158 : decode cX10_page 158 = .ok (.getfield 136, 3) := by decide +kernel
theorem dX10_page_161 : decode cX10_page 161 = .ok (.ifCond .le 6, 3) := by decide +kernel
theorem dX10_page_164 : decode cX10_page 164 = .ok (.goto 24, 3) := by decide +kernel
theorem dX10_page_167 : decode cX10_page 167 = .ok (.aload_n 0, 1) := by decide +kernel
theorem dX10_page_168 : decode cX10_page 168 = .ok (.getfield 31, 3) := by decide +kernel
theorem dX10_page_171 : decode cX10_page 171 = .ok (.aload_n 0, 1) := by decide +kernel
theorem dX10_page_172 : decode cX10_page 172 = .ok (.getfield 181, 3) := by decide +kernel
theorem dX10_page_175 : decode cX10_page 175 = .ok (.aaload, 1) := by decide +kernel
theorem dX10_page_176 : decode cX10_page 176 = .ok (.iload_n 3, 1) := by decide +kernel
theorem dX10_page_177 : decode cX10_page 177 = .ok (.aload_n 0, 1) := by decide +kernel
theorem dX10_page_178 : decode cX10_page 178 = .ok (.invokevirtual 187, 3) := by decide +kernel
theorem dX10_page_181 : decode cX10_page 181 = .ok (.iastore, 1) := by decide +kernel
theorem dX10_page_182 : decode cX10_page 182 = .ok (.iinc 3 1, 3) := by decide +kernel
theorem dX10_page_185 : decode cX10_page 185 = .ok (.goto (-97), 3) := by decide +kernel
theorem bA_out {μ : va_M} {k n : Int} (h : okB μ) (hk : 0 ≤ k) (hr : bA μ k = -1) (e : μ 0 3 = n) : n ≤ k := by
  have hz := h.2.1
  by_cases h9 : μ 0 3 ≤ k
  · omega
  · unfold bA at hr
    rw [if_neg h9] at hr
    have := h.2.2 k.toNat (by omega)
    omega
theorem pok_end {μ0 μ : va_M} {pp : Nat} {T0 T : List Tk} {so : Int} {S : List Int} (hk : pok μ0 μ pp T0 so T S) (he : μ0 0 3 ≤ μ 0 4) : pg (bA μ0) (μ0 0 3) 0 T0 [] = if so = 0 then none else some (T, S) := by
  obtain ⟨a1, a2, a3, a4, a5, a6, a7, a8, a9, b1, b2, b3⟩ := hk
  rw [← a5, pg_end he]
  by_cases h : S.length = 0
  · rw [if_pos h, if_pos (by omega)]
  · rw [if_neg h, if_neg (by omega)]
/-- the text: n of the bytes fed -/
def bAn (μ : va_M) (n : Int) (k : Int) : Int := if n ≤ k then -1 else μ 2 k.toNat
/-- what page may change where it is not refused -/
def PGf (pp t x y : Nat) : Prop := (x = 0 ∧ (y = 0 ∨ y = 2 ∨ y = 3 ∨ y = 5)) ∨ PR pp t x y
def PGs (pp t x y : Nat) : Prop := PGf pp t x y ∨ (x = 0 ∧ y = 10) ∨ (x = 15 ∧ y = pp) ∨ FF pp x y
/-- what stands of a page that was read -/
def pgR (u : va_M) (pp : Nat) (T : List Tk) (S : List Int) : Prop := 1 ≤ S.length ∧ S.length ≤ 60 ∧ u 15 pp = S.length ∧ (∀ (k : Nat) (x : Int), S[k]? = some x → u (7 + pp) k = x ∧ 0 ≤ x ∧ x < T.length) ∧ (∃ w : Rw, rPage w ∧ 1 ≤ rI w ∧ TR u (17 + pp) w) ∧ 0 ≤ u 505 pp ∧ u 505 pp ≤ 60
set_option maxHeartbeats 4000000 in
set_option maxRecDepth 100000 in
theorem LX10_page_88 {p : Program} {l : Launch} {e : Env} {R : Room} {s : State} {m : MethodId} {args : Array Value} {below : List Frame} {meth : Method} {c : Code} {cells slots : Nat} {Q : State → Prop} {dC : Nat → ClassId} {dI : Nat → Nat → Nat} {h0 : Nat} {cI cZ cII cIII : ClassId} (hx : p.tables.exec = Jvm.exec) (hb : c.code = cX10_page) (hml : c.maxLocals = 4) (hown : s.vm.findClass RX10 = some m.cls) (hts : ∀ w ∈ wsG, w.before args s = true) (hK : va_K (dC, dI) vwCl (mT cI cZ cII cIII) s) (hRf : 5 ≤ R.frames) (hRl : 120 ≤ R.locals) (hRc : cells ≤ R.cells) (hRs : slots ≤ R.slots) (μ0 : va_M) (pp : Int) (had : Int) (n : Int) (T0 : List Tk) (hpp : 0 ≤ pp ∧ pp < 8) (hB : okB μ0) (h10 : μ0 0 10 = pp) (hexit188 : ∀ (so : Int) (T : List Tk) (S : List Int) (μ : va_M) (H : Heap) (locs : List Loc) (ls : Array Slot), (pfin μ0 μ pp.toNat T0 so T S) → va_P (dC, dI) vwCl (fw (mE cI cZ cII cIII h0) h0 6325 μ) H → va_S (fA h0 6325 s.heap.size) s.heap H locs → lv_has ls 4 [(3, .int (iZ (so))), (2, .int (iZ (had))), (1, .int (iZ (n))), (0, .ref h0)] → W p l e R s m args below meth c H locs cells slots Q (F0 m 188 ls [])) :
    ∀ (n9 : Nat) (so : Int) (T : List Tk) (S : List Int) (μ : va_M) (H : Heap) (locs : List Loc) (ls : Array Slot), (pst μ0 μ pp.toNat T0 so T S) → (100 - so).toNat < n9 → va_P (dC, dI) vwCl (fw (mE cI cZ cII cIII h0) h0 6325 μ) H → va_S (fA h0 6325 s.heap.size) s.heap H locs → lv_has ls 4 [(3, .int (iZ (so))), (2, .int (iZ (had))), (1, .int (iZ (n))), (0, .ref h0)] → W p l e R s m args below meth c H locs cells slots Q (F0 m 88 ls []) := by
  intro n9
  induction n9 with
  | zero => intro so T S μ H locs ls hst hm9 hP hS hl; exact absurd hm9 (Nat.not_lt_zero _)
  | succ n9 ih =>
    intro so T S μ H locs ls hst hm9 hP hS hl
    have hso0 : 0 ≤ so ∧ so ≤ 61 := by
      rcases hst with h | h
      · have h1 := h.2.2.2.2.2.2.2.2.1; have h2 := h.2.2.2.2.2.2.2.2.2.1; omega
      · have h1 := h.2.2.2; omega
    have h6 : 0 ≤ μ 0 6 ∧ μ 0 6 ≤ 2 := by
      rcases hst with h | h
      · have h1 := h.2.1; omega
      · have h1 := h.2.1; omega
    refine lv_aload_n hx hb dX10_page_88 rfl (lv_at hl 3 rfl) ?_
    refine fz_get (D := (dC, dI)) (ci := 10) (v := .int (iZ (μ 0 6))) (C := RX10) (T := TX10) (N := 53) hx hb hts inG10 hown hK hP (k := 0) (by decide) (F := mF h0) mE_obj rfl 6 (by decide) (hts _ k1172) (fun _ h9 => h9) rfl dX10_page_89 ?_
    refine fz_if_ne (tgt := 188) (by constructor <;> omega) hx hb dX10_page_92 (by decide) (fun c92_ => ?_) (fun c92_ => ?_)
    · exact hexit188 (so) (T) (S) μ H locs ls (by
                    first
                      | exact Or.inr hbd
                      | exact Or.inl ⟨hkb, bA_out hBb (by omega) (by omega) e3b⟩
                      | exact hst.elim (fun h => absurd h.2.1 (by omega)) Or.inr) hP hS (lv_sub hl [0, 1, 2, 3] rfl)
    · have hk : pok μ0 μ pp.toNat T0 so T S := by
        rcases hst with h | h
        · exact h
        · have h1 := h.2.1; omega
      have e3 : μ 0 3 = μ0 0 3 := hk.1 0 3 (PR_n (by omega))
      have hBm : okB μ := okB_fr hk.1 (PR_n (by omega)) (fun _ => PR_n (by omega)) hB
      have k3 := hk.2.2.1
      have k4 := hk.2.2.2.1
      have kso := hk.2.2.2.2.2.2.2.2.1
      have ksl := hk.2.2.2.2.2.2.2.2.2.1
      refine lv_aload_n hx hb dX10_page_95 rfl (lv_at hl 3 rfl) ?_
      refine va_calli (va_runV (As := []) (rest := []) ⟨hx, hb, hml, hown, hts⟩ (m_blanks l dC dI cI cZ cII cIII h0 H.size μ  (by exact hBm) (by first | assumption | omega | exact ⟨by omega, by omega⟩)) (cwV 0 hts (gV_G k1342 k1344 ks_yX10_blanks k13 k1345) rfl rfl rfl (by decide +kernel) ⟨by show 2 + 1 ≤ _; omega, by show 8 + (1 + 11) + (35) ≤ _; omega⟩) ⟨fun a U g mk q => by obtain ⟨q0, q1, qP, qK⟩ := q; exact ⟨q0, q1, qP, va_K.moved (u := U) (U := U.calling g mk a) (Vm.Alike.refl U.vm) qK⟩, va_recv hK hP (ci := 10) (q0 := 0) rfl ((fw_get (by decide)).trans (by rw [mE_obj]; rfl)), fun U hU hW => ⟨rfl, by rw [hU], by rw [hU]; exact hP, va_K.moved hW.alike hK⟩⟩ rfl rfl hl.1 rfl (lv_room (Nat.le_of_ble_eq_true rfl)) dX10_page_96 ⟨hRc, hRs⟩) hS (fun q _ h => fA_le hS.1 q h) (fA_le hS.1) (fun r9 u9 t9 H1 locs ht9 hvm9 hw9 hB9 hz9 hk9 hS => ?_)
      obtain ⟨μb, rb⟩ := u9
      obtain ⟨hP, -⟩ := hB9
      rw [ht9] at hP
      generalize H1 = H at hP hS ⊢
      obtain ⟨e9, hw9⟩ := hw9
      have e9 : r9 = iZ rb := e9
      subst e9
      simp only at hP hw9
      have hμb := hw9; clear hw9
      obtain ⟨f1, f2, f3, f4, f5, f6⟩ := hμb
      have hkb : pok μ0 μb pp.toNat T0 so T S := pok_blank hk f1 f2 (by have h9 : μb 0 3 = μ 0 3 := f1 0 3 (by show ¬ (0 = 0 ∧ 3 = 4); omega); omega) f4
      have hBb : okB μb := okB_fr hkb.1 (PR_n (by omega)) (fun _ => PR_n (by omega)) hB
      have hrb := bA_rng (μ := μb) (k := μb 0 4) hBb (by omega)
      have e3b : μb 0 3 = μ0 0 3 := hkb.1 0 3 (PR_n (by omega))
      have hB1 := hB.1
      have hB2 := hB.2.1
      have e6b : μb 0 6 = 0 := hkb.2.1
      have e10b : μb 0 10 = pp := (hkb.1 0 10 (PR_n (by omega))).trans h10
      refine lv_iconst (v := iZ (-1)) hx hb dX10_page_99 rfl ?_
      refine fz_icmp_eq (tgt := 188) (by constructor <;> omega) (by decide) hx hb dX10_page_100 (by decide) (fun c100_ => ?_) (fun c100_ => ?_)
      · exact hexit188 (so) (T) (S) μb H locs ls (by
                        first
                          | exact Or.inr hbd
                          | exact Or.inl ⟨hkb, bA_out hBb (by omega) (by omega) e3b⟩
                          | exact hst.elim (fun h => absurd h.2.1 (by omega)) Or.inr) hP hS (lv_sub hl [0, 1, 2, 3] rfl)
      · refine lv_aload_n hx hb dX10_page_103 rfl (lv_at hl 3 rfl) ?_
        refine lv_aload_n hx hb dX10_page_104 rfl (lv_at hl 3 rfl) ?_
        refine fz_get (D := (dC, dI)) (ci := 10) (v := .int (iZ (μb 0 4))) (C := RX10) (T := TX10) (N := 53) hx hb hts inG10 hown hK hP (k := 0) (by decide) (F := mF h0) mE_obj rfl 4 (by decide) (hts _ k1170) (fun _ h9 => h9) rfl dX10_page_105 ?_
        refine va_calli (va_runV (As := [.int (iZ (μb 0 4))]) (rest := []) ⟨hx, hb, hml, hown, hts⟩ (m_byteAt l dC dI cI cZ cII cIII h0 H.size μb (μb 0 4) (by first | assumption | omega | exact ⟨by omega, by omega⟩) (by constructor <;> omega) (by first | assumption | omega | exact ⟨by omega, by omega⟩)) (cwV 1 hts (gV_G k1346 k1348 ks_yX10_byteAt k13 k1349) rfl rfl rfl (by decide +kernel) ⟨by show 1 + 1 ≤ _; omega, by show 8 + (2 + 11) + (14) ≤ _; omega⟩) ⟨fun a U g mk q => by obtain ⟨q0, q1, qP, qK⟩ := q; exact ⟨q0, q1, qP, va_K.moved (u := U) (U := U.calling g mk a) (Vm.Alike.refl U.vm) qK⟩, va_recv hK hP (ci := 10) (q0 := 0) rfl ((fw_get (by decide)).trans (by rw [mE_obj]; rfl)), fun U hU hW => ⟨rfl, by rw [hU], by rw [hU]; exact hP, va_K.moved hW.alike hK⟩⟩ rfl rfl hl.1 rfl (lv_room (Nat.le_of_ble_eq_true rfl)) dX10_page_108 ⟨hRc, hRs⟩) hS (fun q _ h => fA_le hS.1 q h) (fA_le hS.1) (fun r9 u9 t9 H1 locs ht9 hvm9 hw9 hB9 hz9 hk9 hS => ?_)
        obtain ⟨μ1, r1⟩ := u9
        obtain ⟨hP, -⟩ := hB9
        rw [ht9] at hP
        generalize H1 = H at hP hS ⊢
        obtain ⟨e9, hw9⟩ := hw9
        have e9 : r9 = iZ r1 := e9
        subst e9
        simp only at hP hw9
        have hμ1 := hw9; clear hw9
        rw [hμ1.1] at hP; have hμ1 := hμ1.2
        have hr1 : r1 = bA μb (μb 0 4) := hμ1
        refine lv_bipush (v := iZ 60) hx hb dX10_page_111 rfl ?_
        refine fz_icmp_eq (tgt := 142) (by constructor <;> omega) (by decide) hx hb dX10_page_113 (by decide) (fun c113_ => ?_) (fun c113_ => ?_)
        · refine lv_iload_n hx hb dX10_page_142 rfl (lv_at hl 0 rfl) ?_
          refine lv_bipush (v := iZ 60) hx hb dX10_page_143 rfl ?_
          refine fz_icmp_ne (tgt := 157) (by constructor <;> omega) (by decide) hx hb dX10_page_145 (by decide) (fun c145_ => ?_) (fun c145_ => ?_)
          · refine lv_aload_n hx hb dX10_page_157 rfl (lv_at hl 3 rfl) ?_
            refine fz_get (D := (dC, dI)) (ci := 10) (v := .int (iZ (μb 0 6))) (C := RX10) (T := TX10) (N := 53) hx hb hts inG10 hown hK hP (k := 0) (by decide) (F := mF h0) mE_obj rfl 6 (by decide) (hts _ k1172) (fun _ h9 => h9) rfl dX10_page_158 ?_
            refine fz_if_le (tgt := 167) (by constructor <;> omega) hx hb dX10_page_161 (by decide) (fun c161_ => ?_) (fun h9 => (by omega))
            refine lv_aload_n hx hb dX10_page_167 rfl (lv_at hl 3 rfl) ?_
            refine fz_get (D := (dC, dI)) (ci := 10) (v := .ref (h0 + 6)) (C := RX10) (T := TX10) (N := 53) hx hb hts inG10 hown hK hP (k := 0) (by decide) (F := mF h0) mE_obj rfl 14 (by decide) (hts _ k1180) (fun _ h9 => h9) rfl dX10_page_168 ?_
            refine lv_aload_n hx hb dX10_page_171 rfl (lv_at hl 3 rfl) ?_
            refine fz_get (D := (dC, dI)) (ci := 10) (v := .int (iZ (μb 0 10))) (C := RX10) (T := TX10) (N := 53) hx hb hts inG10 hown hK hP (k := 0) (by decide) (F := mF h0) mE_obj rfl 10 (by decide) (hts _ k1176) (fun _ h9 => h9) rfl dX10_page_172 ?_
            rw [show μb 0 10 = pp from (by exact e10b)]
            refine fz_ald (k := 6) (n := 8) (k2 := (7 + (pp).toNat)) hx hb hK hP 2 rfl (by decide) mE_page rfl ⟨by omega, by omega⟩ (by decide) (if_pos (by omega)) dX10_page_175 ?_
            refine lv_iload_n hx hb dX10_page_176 rfl (lv_at hl 0 rfl) ?_
            refine lv_aload_n hx hb dX10_page_177 rfl (lv_at hl 3 rfl) ?_
            refine va_calli (va_runV (As := []) (rest := [.int (iZ (so)), .ref (h0 + (7 + (pp).toNat))]) ⟨hx, hb, hml, hown, hts⟩ (m_readsTokenF l dC dI cI cZ cII cIII h0 H.size μb  (by exact hBb) (by exact tab_U hkb.2.2.2.2.2.1 hkb.2.2.2.2.2.2.1) (by omega) (by exact e6b) (by omega)) (cwV 0 hts (gV_G k1357 k1359 ks_yX10_readsToken k13 k1360) rfl rfl rfl (by decide +kernel) ⟨by show 3 + 1 ≤ _; omega, by show 8 + (4 + 11) + (56) ≤ _; omega⟩) ⟨fun a U g mk q => by obtain ⟨q0, q1, qP, qK⟩ := q; exact ⟨q0, q1, qP, va_K.moved (u := U) (U := U.calling g mk a) (Vm.Alike.refl U.vm) qK⟩, va_recv hK hP (ci := 10) (q0 := 0) rfl ((fw_get (by decide)).trans (by rw [mE_obj]; rfl)), fun U hU hW => ⟨rfl, by rw [hU], by rw [hU]; exact hP, va_K.moved hW.alike hK⟩⟩ rfl rfl hl.1 rfl (lv_room (Nat.le_of_ble_eq_true rfl)) dX10_page_178 ⟨hRc, hRs⟩) hS (fun q _ h => fA_le hS.1 q h) (fA_le hS.1) (fun r9 u9 t9 H1 locs ht9 hvm9 hw9 hB9 hz9 hk9 hS => ?_)
            obtain ⟨μt, rt⟩ := u9
            obtain ⟨hP, -⟩ := hB9
            rw [ht9] at hP
            generalize H1 = H at hP hS ⊢
            obtain ⟨e9, hw9⟩ := hw9
            have e9 : r9 = iZ rt := e9
            subst e9
            simp only at hP hw9
            have hμt := hw9; clear hw9
            refine fz_st (k := (7 + (pp).toNat)) (n := 60) (i := so) (z := rt) hx hb hK hP fA_in hS 0 (by omega) (mE_pageR (by omega)) rfl ⟨by omega, by omega⟩ (by decide) dX10_page_181 (fun H locs hP hS => ?_)
            obtain ⟨μ2, eμ2⟩ : ∃ x : va_M, x = uz μt (7 + (pp).toNat) (so).toNat (rt) := ⟨_, rfl⟩
            rw [← eμ2] at hP
            obtain ⟨T2, S2, hst2⟩ : ∃ (T2 : List Tk) (S2 : List Int), pst μ0 μ2 pp.toNat T0 (so + 1) T2 S2 := by
              rw [eμ2]
              exact pok_tok hkb (by omega) (by omega) (by omega) (by omega) hμt
            refine lv_iinc (v := iZ (so + 1)) (lv' := [(3, .int (iZ (so + 1))), (2, .int (iZ (had))), (1, .int (iZ (n))), (0, .ref h0)]) hx hb dX10_page_182 hl (k := 0) rfl (iZ_add _ _) (by decide) rfl (fun ls hl => ?_)
            refine lv_goto (tgt := 88) hx hb dX10_page_185 (by decide) ?_
            exact ih (so + 1) (T2) (S2) μ2 H locs ls (by exact hst2) (by omega) hP hS (lv_sub hl [0, 1, 2, 3] rfl)
          · refine lv_aload_n hx hb dX10_page_148 rfl (lv_at hl 3 rfl) ?_
            refine lv_iconst (v := iZ 2) hx hb dX10_page_149 rfl ?_
            refine lv_aload_n hx hb dX10_page_150 rfl (lv_at hl 3 rfl) ?_
            refine fz_get (D := (dC, dI)) (ci := 10) (v := .int (iZ (μb 0 4))) (C := RX10) (T := TX10) (N := 53) hx hb hts inG10 hown hK hP (k := 0) (by decide) (F := mF h0) mE_obj rfl 4 (by decide) (hts _ k1170) (fun _ h9 => h9) rfl dX10_page_151 ?_
            refine va_callv (va_runV (As := [.int (iZ (2)), .int (iZ (μb 0 4))]) (rest := []) ⟨hx, hb, hml, hown, hts⟩ (m_wrong l dC dI cI cZ cII cIII h0 H.size μb (2) (μb 0 4) (by constructor <;> omega)) (cwV 2 hts (gV_G k1353 k1355 ks_yX10_wrong k13 k1356) rfl rfl rfl (by decide +kernel) ⟨by show 1 + 1 ≤ _; omega, by show 8 + (3 + 11) + (14) ≤ _; omega⟩) ⟨fun a U g mk q => by obtain ⟨q0, q1, qP, qK⟩ := q; exact ⟨q0, q1, qP, va_K.moved (u := U) (U := U.calling g mk a) (Vm.Alike.refl U.vm) qK⟩, va_recv hK hP (ci := 10) (q0 := 0) rfl ((fw_get (by decide)).trans (by rw [mE_obj]; rfl)), fun U hU hW => ⟨rfl, by rw [hU], by rw [hU]; exact hP, va_K.moved hW.alike hK⟩⟩ rfl rfl hl.1 rfl (lv_room (Nat.le_of_ble_eq_true rfl)) dX10_page_154 ⟨hRc, hRs⟩) hS (fun q _ h => fA_le hS.1 q h) (fA_le hS.1) (fun u9 t9 H1 locs ht9 hvm9 hw9 hB9 hz9 hk9 hS => ?_)
            obtain ⟨hP, -⟩ := hB9
            rw [ht9] at hP
            generalize H1 = H at hP hS ⊢
            obtain ⟨μw, eμw⟩ : ∃ x : va_M, x = u9 := ⟨_, rfl⟩
            rw [← eμw] at hP hw9
            have hμw := hw9; clear hw9
            have hbd : pbad μ0 μw pp.toNat T0 so := pok_wrong hkb (pok_bad hkb (by omega) (by omega) (Or.inr (by omega))) hμw (Or.inr rfl)
            have h6w := hbd.2.1
            refine lv_aload_n hx hb dX10_page_157 rfl (lv_at hl 3 rfl) ?_
            refine fz_get (D := (dC, dI)) (ci := 10) (v := .int (iZ (μw 0 6))) (C := RX10) (T := TX10) (N := 53) hx hb hts inG10 hown hK hP (k := 0) (by decide) (F := mF h0) mE_obj rfl 6 (by decide) (hts _ k1172) (fun _ h9 => h9) rfl dX10_page_158 ?_
            refine fz_if_le (tgt := 167) (by constructor <;> omega) hx hb dX10_page_161 (by decide) (fun h9 => (by omega)) (fun c161_ => ?_)
            refine lv_goto (tgt := 188) hx hb dX10_page_164 (by decide) ?_
            exact hexit188 (so) (T) (S) μw H locs ls (by
                                first
                                  | exact Or.inr hbd
                                  | exact Or.inl ⟨hkb, bA_out hBb (by omega) (by omega) e3b⟩
                                  | exact hst.elim (fun h => absurd h.2.1 (by omega)) Or.inr) hP hS (lv_sub hl [0, 1, 2, 3] rfl)
        · refine lv_aload_n hx hb dX10_page_116 rfl (lv_at hl 3 rfl) ?_
          refine lv_aload_n hx hb dX10_page_117 rfl (lv_at hl 3 rfl) ?_
          refine fz_get (D := (dC, dI)) (ci := 10) (v := .int (iZ (μb 0 4))) (C := RX10) (T := TX10) (N := 53) hx hb hts inG10 hown hK hP (k := 0) (by decide) (F := mF h0) mE_obj rfl 4 (by decide) (hts _ k1170) (fun _ h9 => h9) rfl dX10_page_118 ?_
          refine va_calli (va_runV (As := [.int (iZ (μb 0 4))]) (rest := []) ⟨hx, hb, hml, hown, hts⟩ (m_byteAt l dC dI cI cZ cII cIII h0 H.size μb (μb 0 4) (by first | assumption | omega | exact ⟨by omega, by omega⟩) (by constructor <;> omega) (by first | assumption | omega | exact ⟨by omega, by omega⟩)) (cwV 1 hts (gV_G k1346 k1348 ks_yX10_byteAt k13 k1349) rfl rfl rfl (by decide +kernel) ⟨by show 1 + 1 ≤ _; omega, by show 8 + (2 + 11) + (14) ≤ _; omega⟩) ⟨fun a U g mk q => by obtain ⟨q0, q1, qP, qK⟩ := q; exact ⟨q0, q1, qP, va_K.moved (u := U) (U := U.calling g mk a) (Vm.Alike.refl U.vm) qK⟩, va_recv hK hP (ci := 10) (q0 := 0) rfl ((fw_get (by decide)).trans (by rw [mE_obj]; rfl)), fun U hU hW => ⟨rfl, by rw [hU], by rw [hU]; exact hP, va_K.moved hW.alike hK⟩⟩ rfl rfl hl.1 rfl (lv_room (Nat.le_of_ble_eq_true rfl)) dX10_page_121 ⟨hRc, hRs⟩) hS (fun q _ h => fA_le hS.1 q h) (fA_le hS.1) (fun r9 u9 t9 H1 locs ht9 hvm9 hw9 hB9 hz9 hk9 hS => ?_)
          obtain ⟨μ3, r2⟩ := u9
          obtain ⟨hP, -⟩ := hB9
          rw [ht9] at hP
          generalize H1 = H at hP hS ⊢
          obtain ⟨e9, hw9⟩ := hw9
          have e9 : r9 = iZ r2 := e9
          subst e9
          simp only at hP hw9
          have hμ3 := hw9; clear hw9
          rw [hμ3.1] at hP; have hμ3 := hμ3.2
          have hr2 : r2 = bA μb (μb 0 4) := hμ3
          refine va_calli (va_runS (As := [.int (iZ (r2))]) (rest := []) ⟨hx, hb, hml, hown, hts⟩ (m_isSmall l dC dI cI cZ cII cIII h0 H.size μb (r2) (by constructor <;> omega)) (cwS 1 hts (gS_G k1350 k1351 k13 k1352) rfl rfl rfl (by decide +kernel) ⟨by show 1 + 1 ≤ _; omega, by show 8 + (1 + 11) + (14) ≤ _; omega⟩) ⟨fun a U g mk q => by obtain ⟨q0, q1, qP, qK⟩ := q; exact ⟨q0, q1, qP, va_K.moved (u := U) (U := U.calling g mk a) (Vm.Alike.refl U.vm) qK⟩, fun U hU hW => ⟨rfl, by rw [hU], by rw [hU]; exact hP, va_K.moved hW.alike hK⟩⟩ rfl rfl hl.1 rfl (lv_room (Nat.le_of_ble_eq_true rfl)) dX10_page_124 ⟨hRc, hRs⟩) hS (fun q _ h => fA_le hS.1 q h) (fA_le hS.1) (fun r9 u9 t9 H1 locs ht9 hvm9 hw9 hB9 hz9 hk9 hS => ?_)
          obtain ⟨μ4, r3⟩ := u9
          obtain ⟨hP, -⟩ := hB9
          rw [ht9] at hP
          generalize H1 = H at hP hS ⊢
          obtain ⟨e9, hw9⟩ := hw9
          have e9 : r9 = iZ r3 := e9
          subst e9
          simp only at hP hw9
          have hμ4 := hw9; clear hw9
          rw [hμ4.1] at hP; have hμ4 := hμ4.2
          have hr3 : r3 = if 97 ≤ r2 ∧ r2 ≤ 122 then 1 else 0 := hμ4
          have hr3b : r3 = 0 ∨ r3 = 1 := by rw [hr3]; split <;> omega
          refine fz_if_ne (tgt := 142) (by constructor <;> omega) hx hb dX10_page_127 (by decide) (fun c127_ => ?_) (fun c127_ => ?_)
          · have h97 : 97 ≤ r2 ∧ r2 ≤ 122 := by
              by_cases h : 97 ≤ r2 ∧ r2 ≤ 122
              · exact h
              · rw [if_neg h] at hr3; omega
            refine lv_iload_n hx hb dX10_page_142 rfl (lv_at hl 0 rfl) ?_
            refine lv_bipush (v := iZ 60) hx hb dX10_page_143 rfl ?_
            refine fz_icmp_ne (tgt := 157) (by constructor <;> omega) (by decide) hx hb dX10_page_145 (by decide) (fun c145_ => ?_) (fun c145_ => ?_)
            · refine lv_aload_n hx hb dX10_page_157 rfl (lv_at hl 3 rfl) ?_
              refine fz_get (D := (dC, dI)) (ci := 10) (v := .int (iZ (μb 0 6))) (C := RX10) (T := TX10) (N := 53) hx hb hts inG10 hown hK hP (k := 0) (by decide) (F := mF h0) mE_obj rfl 6 (by decide) (hts _ k1172) (fun _ h9 => h9) rfl dX10_page_158 ?_
              refine fz_if_le (tgt := 167) (by constructor <;> omega) hx hb dX10_page_161 (by decide) (fun c161_ => ?_) (fun h9 => (by omega))
              refine lv_aload_n hx hb dX10_page_167 rfl (lv_at hl 3 rfl) ?_
              refine fz_get (D := (dC, dI)) (ci := 10) (v := .ref (h0 + 6)) (C := RX10) (T := TX10) (N := 53) hx hb hts inG10 hown hK hP (k := 0) (by decide) (F := mF h0) mE_obj rfl 14 (by decide) (hts _ k1180) (fun _ h9 => h9) rfl dX10_page_168 ?_
              refine lv_aload_n hx hb dX10_page_171 rfl (lv_at hl 3 rfl) ?_
              refine fz_get (D := (dC, dI)) (ci := 10) (v := .int (iZ (μb 0 10))) (C := RX10) (T := TX10) (N := 53) hx hb hts inG10 hown hK hP (k := 0) (by decide) (F := mF h0) mE_obj rfl 10 (by decide) (hts _ k1176) (fun _ h9 => h9) rfl dX10_page_172 ?_
              rw [show μb 0 10 = pp from (by exact e10b)]
              refine fz_ald (k := 6) (n := 8) (k2 := (7 + (pp).toNat)) hx hb hK hP 2 rfl (by decide) mE_page rfl ⟨by omega, by omega⟩ (by decide) (if_pos (by omega)) dX10_page_175 ?_
              refine lv_iload_n hx hb dX10_page_176 rfl (lv_at hl 0 rfl) ?_
              refine lv_aload_n hx hb dX10_page_177 rfl (lv_at hl 3 rfl) ?_
              refine va_calli (va_runV (As := []) (rest := [.int (iZ (so)), .ref (h0 + (7 + (pp).toNat))]) ⟨hx, hb, hml, hown, hts⟩ (m_readsTokenF l dC dI cI cZ cII cIII h0 H.size μb  (by exact hBb) (by exact tab_U hkb.2.2.2.2.2.1 hkb.2.2.2.2.2.2.1) (by omega) (by exact e6b) (by omega)) (cwV 0 hts (gV_G k1357 k1359 ks_yX10_readsToken k13 k1360) rfl rfl rfl (by decide +kernel) ⟨by show 3 + 1 ≤ _; omega, by show 8 + (4 + 11) + (56) ≤ _; omega⟩) ⟨fun a U g mk q => by obtain ⟨q0, q1, qP, qK⟩ := q; exact ⟨q0, q1, qP, va_K.moved (u := U) (U := U.calling g mk a) (Vm.Alike.refl U.vm) qK⟩, va_recv hK hP (ci := 10) (q0 := 0) rfl ((fw_get (by decide)).trans (by rw [mE_obj]; rfl)), fun U hU hW => ⟨rfl, by rw [hU], by rw [hU]; exact hP, va_K.moved hW.alike hK⟩⟩ rfl rfl hl.1 rfl (lv_room (Nat.le_of_ble_eq_true rfl)) dX10_page_178 ⟨hRc, hRs⟩) hS (fun q _ h => fA_le hS.1 q h) (fA_le hS.1) (fun r9 u9 t9 H1 locs ht9 hvm9 hw9 hB9 hz9 hk9 hS => ?_)
              obtain ⟨μt, rt⟩ := u9
              obtain ⟨hP, -⟩ := hB9
              rw [ht9] at hP
              generalize H1 = H at hP hS ⊢
              obtain ⟨e9, hw9⟩ := hw9
              have e9 : r9 = iZ rt := e9
              subst e9
              simp only at hP hw9
              have hμt := hw9; clear hw9
              refine fz_st (k := (7 + (pp).toNat)) (n := 60) (i := so) (z := rt) hx hb hK hP fA_in hS 0 (by omega) (mE_pageR (by omega)) rfl ⟨by omega, by omega⟩ (by decide) dX10_page_181 (fun H locs hP hS => ?_)
              obtain ⟨μ5, eμ5⟩ : ∃ x : va_M, x = uz μt (7 + (pp).toNat) (so).toNat (rt) := ⟨_, rfl⟩
              rw [← eμ5] at hP
              obtain ⟨T2, S2, hst2⟩ : ∃ (T2 : List Tk) (S2 : List Int), pst μ0 μ5 pp.toNat T0 (so + 1) T2 S2 := by
                rw [eμ5]
                exact pok_tok hkb (by omega) (by omega) (by omega) (by omega) hμt
              refine lv_iinc (v := iZ (so + 1)) (lv' := [(3, .int (iZ (so + 1))), (2, .int (iZ (had))), (1, .int (iZ (n))), (0, .ref h0)]) hx hb dX10_page_182 hl (k := 0) rfl (iZ_add _ _) (by decide) rfl (fun ls hl => ?_)
              refine lv_goto (tgt := 88) hx hb dX10_page_185 (by decide) ?_
              exact ih (so + 1) (T2) (S2) μ5 H locs ls (by exact hst2) (by omega) hP hS (lv_sub hl [0, 1, 2, 3] rfl)
            · refine lv_aload_n hx hb dX10_page_148 rfl (lv_at hl 3 rfl) ?_
              refine lv_iconst (v := iZ 2) hx hb dX10_page_149 rfl ?_
              refine lv_aload_n hx hb dX10_page_150 rfl (lv_at hl 3 rfl) ?_
              refine fz_get (D := (dC, dI)) (ci := 10) (v := .int (iZ (μb 0 4))) (C := RX10) (T := TX10) (N := 53) hx hb hts inG10 hown hK hP (k := 0) (by decide) (F := mF h0) mE_obj rfl 4 (by decide) (hts _ k1170) (fun _ h9 => h9) rfl dX10_page_151 ?_
              refine va_callv (va_runV (As := [.int (iZ (2)), .int (iZ (μb 0 4))]) (rest := []) ⟨hx, hb, hml, hown, hts⟩ (m_wrong l dC dI cI cZ cII cIII h0 H.size μb (2) (μb 0 4) (by constructor <;> omega)) (cwV 2 hts (gV_G k1353 k1355 ks_yX10_wrong k13 k1356) rfl rfl rfl (by decide +kernel) ⟨by show 1 + 1 ≤ _; omega, by show 8 + (3 + 11) + (14) ≤ _; omega⟩) ⟨fun a U g mk q => by obtain ⟨q0, q1, qP, qK⟩ := q; exact ⟨q0, q1, qP, va_K.moved (u := U) (U := U.calling g mk a) (Vm.Alike.refl U.vm) qK⟩, va_recv hK hP (ci := 10) (q0 := 0) rfl ((fw_get (by decide)).trans (by rw [mE_obj]; rfl)), fun U hU hW => ⟨rfl, by rw [hU], by rw [hU]; exact hP, va_K.moved hW.alike hK⟩⟩ rfl rfl hl.1 rfl (lv_room (Nat.le_of_ble_eq_true rfl)) dX10_page_154 ⟨hRc, hRs⟩) hS (fun q _ h => fA_le hS.1 q h) (fA_le hS.1) (fun u9 t9 H1 locs ht9 hvm9 hw9 hB9 hz9 hk9 hS => ?_)
              obtain ⟨hP, -⟩ := hB9
              rw [ht9] at hP
              generalize H1 = H at hP hS ⊢
              obtain ⟨μw, eμw⟩ : ∃ x : va_M, x = u9 := ⟨_, rfl⟩
              rw [← eμw] at hP hw9
              have hμw := hw9; clear hw9
              have hbd : pbad μ0 μw pp.toNat T0 so := pok_wrong hkb (pok_bad hkb (by omega) (by omega) (Or.inr (by omega))) hμw (Or.inr rfl)
              have h6w := hbd.2.1
              refine lv_aload_n hx hb dX10_page_157 rfl (lv_at hl 3 rfl) ?_
              refine fz_get (D := (dC, dI)) (ci := 10) (v := .int (iZ (μw 0 6))) (C := RX10) (T := TX10) (N := 53) hx hb hts inG10 hown hK hP (k := 0) (by decide) (F := mF h0) mE_obj rfl 6 (by decide) (hts _ k1172) (fun _ h9 => h9) rfl dX10_page_158 ?_
              refine fz_if_le (tgt := 167) (by constructor <;> omega) hx hb dX10_page_161 (by decide) (fun h9 => (by omega)) (fun c161_ => ?_)
              refine lv_goto (tgt := 188) hx hb dX10_page_164 (by decide) ?_
              exact hexit188 (so) (T) (S) μw H locs ls (by
                                    first
                                      | exact Or.inr hbd
                                      | exact Or.inl ⟨hkb, bA_out hBb (by omega) (by omega) e3b⟩
                                      | exact hst.elim (fun h => absurd h.2.1 (by omega)) Or.inr) hP hS (lv_sub hl [0, 1, 2, 3] rfl)
          · have h97 : ¬ (97 ≤ r2 ∧ r2 ≤ 122) := by
              intro h
              rw [if_pos h] at hr3; omega
            refine lv_aload_n hx hb dX10_page_130 rfl (lv_at hl 3 rfl) ?_
            refine lv_iconst (v := iZ 1) hx hb dX10_page_131 rfl ?_
            refine lv_aload_n hx hb dX10_page_132 rfl (lv_at hl 3 rfl) ?_
            refine fz_get (D := (dC, dI)) (ci := 10) (v := .int (iZ (μb 0 4))) (C := RX10) (T := TX10) (N := 53) hx hb hts inG10 hown hK hP (k := 0) (by decide) (F := mF h0) mE_obj rfl 4 (by decide) (hts _ k1170) (fun _ h9 => h9) rfl dX10_page_133 ?_
            refine va_callv (va_runV (As := [.int (iZ (1)), .int (iZ (μb 0 4))]) (rest := []) ⟨hx, hb, hml, hown, hts⟩ (m_wrong l dC dI cI cZ cII cIII h0 H.size μb (1) (μb 0 4) (by constructor <;> omega)) (cwV 2 hts (gV_G k1353 k1355 ks_yX10_wrong k13 k1356) rfl rfl rfl (by decide +kernel) ⟨by show 1 + 1 ≤ _; omega, by show 8 + (3 + 11) + (14) ≤ _; omega⟩) ⟨fun a U g mk q => by obtain ⟨q0, q1, qP, qK⟩ := q; exact ⟨q0, q1, qP, va_K.moved (u := U) (U := U.calling g mk a) (Vm.Alike.refl U.vm) qK⟩, va_recv hK hP (ci := 10) (q0 := 0) rfl ((fw_get (by decide)).trans (by rw [mE_obj]; rfl)), fun U hU hW => ⟨rfl, by rw [hU], by rw [hU]; exact hP, va_K.moved hW.alike hK⟩⟩ rfl rfl hl.1 rfl (lv_room (Nat.le_of_ble_eq_true rfl)) dX10_page_136 ⟨hRc, hRs⟩) hS (fun q _ h => fA_le hS.1 q h) (fA_le hS.1) (fun u9 t9 H1 locs ht9 hvm9 hw9 hB9 hz9 hk9 hS => ?_)
            obtain ⟨hP, -⟩ := hB9
            rw [ht9] at hP
            generalize H1 = H at hP hS ⊢
            obtain ⟨μw, eμw⟩ : ∃ x : va_M, x = u9 := ⟨_, rfl⟩
            rw [← eμw] at hP hw9
            have hμw := hw9; clear hw9
            have hbd : pbad μ0 μw pp.toNat T0 so := pok_wrong hkb (pok_bad hkb (by omega) (by omega) (Or.inl (by omega))) hμw (Or.inl rfl)
            have h6w := hbd.2.1
            refine lv_goto (tgt := 157) hx hb dX10_page_139 (by decide) ?_
            refine lv_aload_n hx hb dX10_page_157 rfl (lv_at hl 3 rfl) ?_
            refine fz_get (D := (dC, dI)) (ci := 10) (v := .int (iZ (μw 0 6))) (C := RX10) (T := TX10) (N := 53) hx hb hts inG10 hown hK hP (k := 0) (by decide) (F := mF h0) mE_obj rfl 6 (by decide) (hts _ k1172) (fun _ h9 => h9) rfl dX10_page_158 ?_
            refine fz_if_le (tgt := 167) (by constructor <;> omega) hx hb dX10_page_161 (by decide) (fun h9 => (by omega)) (fun c161_ => ?_)
            refine lv_goto (tgt := 188) hx hb dX10_page_164 (by decide) ?_
            exact hexit188 (so) (T) (S) μw H locs ls (by
                                first
                                  | exact Or.inr hbd
                                  | exact Or.inl ⟨hkb, bA_out hBb (by omega) (by omega) e3b⟩
                                  | exact hst.elim (fun h => absurd h.2.1 (by omega)) Or.inr) hP hS (lv_sub hl [0, 1, 2, 3] rfl)


/-! common of the reference, told whole -/
/-- a cell of the table, told from the ends of both -/
def lpR (μ : va_M) (f g : Nat → Int) (n m a b : Nat) : Prop := μ (754 + 0 * 261 + 1 + a) b = lc9 (fun q => f (n - 1 - q)) (fun q => g (m - 1 - q)) (n - a) (m - b)
theorem lpR_0 {f g : Nat → Int} {n m a b : Nat} (h : n ≤ a ∨ m ≤ b) : (0 : Int) = lc9 (fun q => f (n - 1 - q)) (fun q => g (m - 1 - q)) (n - a) (m - b) := by
  rcases h with h | h
  · rw [Nat.sub_eq_zero_of_le h]; rfl
  · rw [Nat.sub_eq_zero_of_le h, lc9_0]; rfl
theorem lpR_1 {μ : va_M} {f g : Nat → Int} {n m a b : Nat} (ha : a < n) (hb : b < m) (e : f a = g b) (h : lpR μ f g n m (a + 1) (b + 1)) : 1 + μ (754 + 0 * 261 + 1 + (a + 1)) (b + 1) = lc9 (fun q => f (n - 1 - q)) (fun q => g (m - 1 - q)) (n - a) (m - b) := by
  unfold lpR at h
  obtain ⟨p, rfl⟩ : ∃ p, n = a + 1 + p := ⟨n - (a + 1), by omega⟩
  obtain ⟨q, rfl⟩ : ∃ q, m = b + 1 + q := ⟨m - (b + 1), by omega⟩
  rw [h, show a + 1 + p - (a + 1) = p by omega, show b + 1 + q - (b + 1) = q by omega, show a + 1 + p - a = p + 1 by omega, show b + 1 + q - b = q + 1 by omega, lc9_s, if_pos (by show f (a + 1 + p - 1 - p) = g (b + 1 + q - 1 - q); rw [show a + 1 + p - 1 - p = a by omega, show b + 1 + q - 1 - q = b by omega]; exact e)]
  omega
theorem lpR_2 {μ : va_M} {f g : Nat → Int} {n m a b : Nat} {r : Int} (ha : a < n) (hb : b < m) (e : ¬ f a = g b) (h1 : lpR μ f g n m (a + 1) b) (h2 : lpR μ f g n m a (b + 1)) (hr : r = max (μ (754 + 0 * 261 + 1 + (a + 1)) b) (μ (754 + 0 * 261 + 1 + a) (b + 1))) : r = lc9 (fun q => f (n - 1 - q)) (fun q => g (m - 1 - q)) (n - a) (m - b) := by
  unfold lpR at h1 h2
  rw [h1, h2] at hr
  obtain ⟨p, rfl⟩ : ∃ p, n = a + 1 + p := ⟨n - (a + 1), by omega⟩
  obtain ⟨q, rfl⟩ : ∃ q, m = b + 1 + q := ⟨m - (b + 1), by omega⟩
  rw [show a + 1 + p - (a + 1) = p by omega, show b + 1 + q - (b + 1) = q by omega, show a + 1 + p - a = p + 1 by omega, show b + 1 + q - b = q + 1 by omega] at hr
  rw [hr, show a + 1 + p - a = p + 1 by omega, show b + 1 + q - b = q + 1 by omega, lc9_s, if_neg (by show ¬ f (a + 1 + p - 1 - p) = g (b + 1 + q - 1 - q); rw [show a + 1 + p - 1 - p = a by omega, show b + 1 + q - 1 - q = b by omega]; exact e)]
  omega
theorem lpR_n {μ u : va_M} {f g : Nat → Int} {n m a b : Nat} (h : lpR μ f g n m a b) (e : u (754 + 0 * 261 + 1 + a) b = μ (754 + 0 * 261 + 1 + a) b) : lpR u f g n m a b := e.trans h
set_option maxHeartbeats 4000000 in
set_option maxRecDepth 100000 in
theorem LX10_common_65b {p : Program} {l : Launch} {e : Env} {R : Room} {s : State} {m : MethodId} {args : Array Value} {below : List Frame} {meth : Method} {c : Code} {cells slots : Nat} {Q : State → Prop} {dC : Nat → ClassId} {dI : Nat → Nat → Nat} {h0 : Nat} {cI cZ cII cIII : ClassId} (hx : p.tables.exec = Jvm.exec) (hb : c.code = cX10_common) (hml : c.maxLocals = 6) (hown : s.vm.findClass RX10 = some m.cls) (hts : ∀ w ∈ wsG, w.before args s = true) (hK : va_K (dC, dI) vwCl (mT cI cZ cII cIII) s) (hRf : 3 ≤ R.frames) (hRl : 57 ≤ R.locals) (hRc : cells ≤ R.cells) (hRs : slots ≤ R.slots) (μ0 : va_M) (pp : Int) (pq : Int) (i : Int) (hpp : 0 ≤ pp ∧ pp < 8) (hpq : 0 ≤ pq ∧ pq < 8) (hP : 0 ≤ μ0 15 pp.toNat ∧ μ0 15 pp.toNat ≤ 60) (hQ : 0 ≤ μ0 15 pq.toNat ∧ μ0 15 pq.toNat ≤ 60) (hTp : ∀ k : Nat, (k : Int) < μ0 15 pp.toNat → inR (μ0 (7 + pp.toNat) k)) (hTq : ∀ k : Nat, (k : Int) < μ0 15 pq.toNat → inR (μ0 (7 + pq.toNat) k)) (hi : 0 ≤ i ∧ i ≤ μ0 15 pp.toNat) (hexit174 : ∀ (j : Int) (μ : va_M) (H : Heap) (locs : List Loc) (ls : Array Slot), (fr (fun x y => 755 ≤ x ∧ x < 1015) μ0 μ) → (∀ a b : Nat, i ≤ (a : Int) → (a : Int) ≤ μ0 15 pp.toNat → (b : Int) ≤ μ0 15 pq.toNat → 0 ≤ μ (754 + 0 * 261 + 1 + a) b ∧ μ (754 + 0 * 261 + 1 + a) b ≤ μ0 15 pp.toNat - a) → (∀ a b : Nat, i ≤ (a : Int) → (a : Int) ≤ μ0 15 pp.toNat → (b : Int) ≤ μ0 15 pq.toNat → lpR μ (μ0 (7 + pp.toNat)) (μ0 (7 + pq.toNat)) (μ0 15 pp.toNat).toNat (μ0 15 pq.toNat).toNat a b) → va_P (dC, dI) vwCl (fw (mE cI cZ cII cIII h0) h0 6325 μ) H → va_S (fA h0 6325 s.heap.size) s.heap H locs → lv_has ls 6 [(4, .int (iZ (i))), (3, .ref (h0 + (754 + 0 * 261))), (2, .int (iZ (pq))), (1, .int (iZ (pp))), (0, .ref h0)] → W p l e R s m args below meth c H locs cells slots Q (F0 m 174 ls [])) :
    ∀ (n9 : Nat) (j : Int) (μ : va_M) (H : Heap) (locs : List Loc) (ls : Array Slot), (-1 ≤ j ∧ j ≤ μ0 15 pq.toNat) → (fr (fun x y => 755 ≤ x ∧ x < 1015) μ0 μ) → (∀ a b : Nat, (i < (a : Int) ∨ ((a : Int) = i ∧ j < (b : Int))) → (a : Int) ≤ μ0 15 pp.toNat → (b : Int) ≤ μ0 15 pq.toNat → 0 ≤ μ (754 + 0 * 261 + 1 + a) b ∧ μ (754 + 0 * 261 + 1 + a) b ≤ μ0 15 pp.toNat - a) → (∀ a b : Nat, (i < (a : Int) ∨ ((a : Int) = i ∧ j < (b : Int))) → (a : Int) ≤ μ0 15 pp.toNat → (b : Int) ≤ μ0 15 pq.toNat → lpR μ (μ0 (7 + pp.toNat)) (μ0 (7 + pq.toNat)) (μ0 15 pp.toNat).toNat (μ0 15 pq.toNat).toNat a b) → (j + 2).toNat < n9 → va_P (dC, dI) vwCl (fw (mE cI cZ cII cIII h0) h0 6325 μ) H → va_S (fA h0 6325 s.heap.size) s.heap H locs → lv_has ls 6 [(5, .int (iZ (j))), (4, .int (iZ (i))), (3, .ref (h0 + (754 + 0 * 261))), (2, .int (iZ (pq))), (1, .int (iZ (pp))), (0, .ref h0)] → W p l e R s m args below meth c H locs cells slots Q (F0 m 65 ls []) := by
  intro n9
  induction n9 with
  | zero => intro j μ H locs ls hj hf hv hx9 hm9 hP hS hl; exact absurd hm9 (Nat.not_lt_zero _)
  | succ n9 ih =>
    intro j μ H locs ls hj hf hv hx9 hm9 hP hS hl
    have eP := hf 15 pp.toNat (by show ¬ (755 ≤ _ ∧ _); omega)
    have eQ := hf 15 pq.toNat (by show ¬ (755 ≤ _ ∧ _); omega)
    have tP : ∀ k, μ (7 + pp.toNat) k = μ0 (7 + pp.toNat) k := fun k => hf _ _ (by show ¬ (755 ≤ _ ∧ _); omega)
    have tQ : ∀ k, μ (7 + pq.toNat) k = μ0 (7 + pq.toNat) k := fun k => hf _ _ (by show ¬ (755 ≤ _ ∧ _); omega)
    refine lv_iload hx hb dX10_common_65 (lv_at hl 0 rfl) ?_
    refine fz_if_lt (tgt := 174) (by constructor <;> omega) hx hb dX10_common_67 (by decide) (fun c67_ => ?_) (fun c67_ => ?_)
    · exact hexit174 (j) μ H locs ls (by exact hf) (by
                    intro a b h1 h2 h3
                    exact hv a b (by omega) h2 h3) (by
                    intro a b h1 h2 h3
                    exact hx9 a b (by omega) h2 h3) hP hS (lv_sub hl [1, 2, 3, 4, 5] rfl)
    · refine lv_iload hx hb dX10_common_70 (lv_at hl 1 rfl) ?_
      refine lv_aload_n hx hb dX10_common_72 rfl (lv_at hl 5 rfl) ?_
      refine fz_get (D := (dC, dI)) (ci := 10) (v := .ref (h0 + 15)) (C := RX10) (T := TX10) (N := 53) hx hb hts inG10 hown hK hP (k := 0) (by decide) (F := mF h0) mE_obj rfl 15 (by decide) (hts _ k1181) (fun _ h9 => h9) rfl dX10_common_73 ?_
      refine lv_iload_n hx hb dX10_common_76 rfl (lv_at hl 4 rfl) ?_
      refine fz_ld (k := 15) (n := 8) hx hb hK hP 0 (by decide) mE_pageLong rfl ⟨by omega, by omega⟩ (by decide) dX10_common_77 ?_
      refine fz_icmp_eq (tgt := 92) (by constructor <;> omega) (by constructor <;> omega) hx hb dX10_common_78 (by decide) (fun c78_ => ?_) (fun c78_ => ?_)
      · refine lv_aload_n hx hb dX10_common_92 rfl (lv_at hl 2 rfl) ?_
        refine lv_iload hx hb dX10_common_93 (lv_at hl 1 rfl) ?_
        refine fz_ald (k := (754 + 0 * 261)) (n := 260) (k2 := (754 + 0 * 261 + 1 + (i).toNat)) hx hb hK hP 2 rfl (by omega) (mE_leastM (by omega)) rfl ⟨by omega, by omega⟩ (by decide) (if_pos (by omega)) dX10_common_95 ?_
        refine lv_iload hx hb dX10_common_96 (lv_at hl 0 rfl) ?_
        refine lv_iconst (v := iZ 0) hx hb dX10_common_98 rfl ?_
        refine fz_st (k := (754 + 0 * 261 + 1 + (i).toNat)) (n := 62) (i := j) (z := 0) hx hb hK hP fA_in hS 0 (by omega) (mE_leastR (by omega) (by omega)) rfl ⟨by omega, by omega⟩ (by decide) dX10_common_99 (fun H locs hP hS => ?_)
        obtain ⟨μ1, eμ1⟩ : ∃ x : va_M, x = uz μ (754 + 0 * 261 + 1 + (i).toNat) (j).toNat (0) := ⟨_, rfl⟩
        rw [← eμ1] at hP
        refine lv_goto (tgt := 168) hx hb dX10_common_100 (by decide) ?_
        refine lv_iinc (v := iZ (j - 1)) (lv' := [(5, .int (iZ (j - 1))), (4, .int (iZ (i))), (3, .ref (h0 + (754 + 0 * 261))), (2, .int (iZ (pq))), (1, .int (iZ (pp))), (0, .ref h0)]) hx hb dX10_common_168 hl (k := 0) rfl (iZ_add _ (-1)) (by decide) rfl (fun ls hl => ?_)
        refine lv_goto (tgt := 65) hx hb dX10_common_171 (by decide) ?_
        exact ih (j - 1) μ1 H locs ls (by omega) (by
                        subst eμ1
                        exact fr_uz hf (by show 755 ≤ _ ∧ _; omega)) (by
                        intro a b h1 h2 h3
                        subst eμ1
                        by_cases h4 : a = i.toNat ∧ b = j.toNat
                        · obtain ⟨rfl, rfl⟩ := h4
                          rw [uz_s]
                          first | omega | (have h9 := h?; omega) | (have h9 := h?; split at h9 <;> omega)
                        · rw [uz_n (by omega)]; exact hv a b (by omega) h2 h3) (by
                        intro a b h1 h2 h3
                        subst eμ1
                        by_cases h4 : a = i.toNat ∧ b = j.toNat
                        · obtain ⟨rfl, rfl⟩ := h4
                          unfold lpR
                          rw [uz_s]
                          exact lpR_0 (by omega)
                        · exact lpR_n (hx9 a b (by omega) h2 h3) (uz_n (by omega))) (by omega) hP hS (lv_sub hl [0, 1, 2, 3, 4, 5] rfl)
      · refine lv_iload hx hb dX10_common_81 (lv_at hl 0 rfl) ?_
        refine lv_aload_n hx hb dX10_common_83 rfl (lv_at hl 5 rfl) ?_
        refine fz_get (D := (dC, dI)) (ci := 10) (v := .ref (h0 + 15)) (C := RX10) (T := TX10) (N := 53) hx hb hts inG10 hown hK hP (k := 0) (by decide) (F := mF h0) mE_obj rfl 15 (by decide) (hts _ k1181) (fun _ h9 => h9) rfl dX10_common_84 ?_
        refine lv_iload_n hx hb dX10_common_87 rfl (lv_at hl 3 rfl) ?_
        refine fz_ld (k := 15) (n := 8) hx hb hK hP 0 (by decide) mE_pageLong rfl ⟨by omega, by omega⟩ (by decide) dX10_common_88 ?_
        refine fz_icmp_ne (tgt := 103) (by constructor <;> omega) (by constructor <;> omega) hx hb dX10_common_89 (by decide) (fun c89_ => ?_) (fun c89_ => ?_)
        · have r1 := hTp i.toNat (by omega)
          have r2 := hTq j.toNat (by omega)
          have v1 := hv (i.toNat + 1) (j.toNat + 1) (by omega) (by omega) (by omega)
          have v2 := hv (i.toNat + 1) j.toNat (by omega) (by omega) (by omega)
          have v3 := hv i.toNat (j.toNat + 1) (by omega) (by omega) (by omega)
          have ei : (i + 1).toNat = i.toNat + 1 := by omega
          have ej : (j + 1).toNat = j.toNat + 1 := by omega
          have tp9 := tP i.toNat
          have tq9 := tQ j.toNat
          rw [← tP] at r1
          rw [← tQ] at r2
          refine lv_aload_n hx hb dX10_common_103 rfl (lv_at hl 2 rfl) ?_
          refine lv_iload hx hb dX10_common_104 (lv_at hl 1 rfl) ?_
          refine fz_ald (k := (754 + 0 * 261)) (n := 260) (k2 := (754 + 0 * 261 + 1 + (i).toNat)) hx hb hK hP 2 rfl (by omega) (mE_leastM (by omega)) rfl ⟨by omega, by omega⟩ (by decide) (if_pos (by omega)) dX10_common_106 ?_
          refine lv_iload hx hb dX10_common_107 (lv_at hl 0 rfl) ?_
          refine lv_aload_n hx hb dX10_common_109 rfl (lv_at hl 5 rfl) ?_
          refine fz_get (D := (dC, dI)) (ci := 10) (v := .ref (h0 + 6)) (C := RX10) (T := TX10) (N := 53) hx hb hts inG10 hown hK hP (k := 0) (by decide) (F := mF h0) mE_obj rfl 14 (by decide) (hts _ k1180) (fun _ h9 => h9) rfl dX10_common_110 ?_
          refine lv_iload_n hx hb dX10_common_113 rfl (lv_at hl 4 rfl) ?_
          refine fz_ald (k := 6) (n := 8) (k2 := (7 + (pp).toNat)) hx hb hK hP 2 rfl (by decide) mE_page rfl ⟨by omega, by omega⟩ (by decide) (if_pos (by omega)) dX10_common_114 ?_
          refine lv_iload hx hb dX10_common_115 (lv_at hl 1 rfl) ?_
          refine fz_ld (k := (7 + (pp).toNat)) (n := 60) hx hb hK hP 0 (by omega) (mE_pageR (by omega)) rfl ⟨by omega, by omega⟩ (by decide) dX10_common_117 ?_
          refine lv_aload_n hx hb dX10_common_118 rfl (lv_at hl 5 rfl) ?_
          refine fz_get (D := (dC, dI)) (ci := 10) (v := .ref (h0 + 6)) (C := RX10) (T := TX10) (N := 53) hx hb hts inG10 hown hK hP (k := 0) (by decide) (F := mF h0) mE_obj rfl 14 (by decide) (hts _ k1180) (fun _ h9 => h9) rfl dX10_common_119 ?_
          refine lv_iload_n hx hb dX10_common_122 rfl (lv_at hl 3 rfl) ?_
          refine fz_ald (k := 6) (n := 8) (k2 := (7 + (pq).toNat)) hx hb hK hP 2 rfl (by decide) mE_page rfl ⟨by omega, by omega⟩ (by decide) (if_pos (by omega)) dX10_common_123 ?_
          refine lv_iload hx hb dX10_common_124 (lv_at hl 0 rfl) ?_
          refine fz_ld (k := (7 + (pq).toNat)) (n := 60) hx hb hK hP 0 (by omega) (mE_pageR (by omega)) rfl ⟨by omega, by omega⟩ (by decide) dX10_common_126 ?_
          refine fz_icmp_ne (tgt := 146) (by first | exact r1 | exact r2) (by first | exact r1 | exact r2) hx hb dX10_common_127 (by decide) (fun c127_ => ?_) (fun c127_ => ?_)
          · refine lv_aload_n hx hb dX10_common_146 rfl (lv_at hl 2 rfl) ?_
            refine lv_iload hx hb dX10_common_147 (lv_at hl 1 rfl) ?_
            refine lv_iconst (v := iZ 1) hx hb dX10_common_149 rfl ?_
            refine lv_iadd hx hb dX10_common_150 ?_
            refine lv_topi (fun x9 ex9 => ?_)
            obtain rfl : x9 = iZ (i + 1) := ex9.trans (iZ_add _ _)
            refine fz_ald (k := (754 + 0 * 261)) (n := 260) (k2 := (754 + 0 * 261 + 1 + (i + 1).toNat)) hx hb hK hP 2 rfl (by omega) (mE_leastM (by omega)) rfl ⟨by omega, by omega⟩ (by decide) (if_pos (by omega)) dX10_common_151 ?_
            refine lv_iload hx hb dX10_common_152 (lv_at hl 0 rfl) ?_
            refine fz_ld (k := (754 + 0 * 261 + 1 + (i + 1).toNat)) (n := 62) hx hb hK hP 0 (by omega) (mE_leastR (by omega) (by omega)) rfl ⟨by omega, by omega⟩ (by decide) dX10_common_154 ?_
            rw [show μ (754 + 0 * 261 + 1 + (i + 1).toNat) (j).toNat = μ (754 + 0 * 261 + 1 + (i.toNat + 1)) j.toNat from (by rw [ei])]
            refine lv_aload_n hx hb dX10_common_155 rfl (lv_at hl 2 rfl) ?_
            refine lv_iload hx hb dX10_common_156 (lv_at hl 1 rfl) ?_
            refine fz_ald (k := (754 + 0 * 261)) (n := 260) (k2 := (754 + 0 * 261 + 1 + (i).toNat)) hx hb hK hP 2 rfl (by omega) (mE_leastM (by omega)) rfl ⟨by omega, by omega⟩ (by decide) (if_pos (by omega)) dX10_common_158 ?_
            refine lv_iload hx hb dX10_common_159 (lv_at hl 0 rfl) ?_
            refine lv_iconst (v := iZ 1) hx hb dX10_common_161 rfl ?_
            refine lv_iadd hx hb dX10_common_162 ?_
            refine lv_topi (fun x9 ex9 => ?_)
            obtain rfl : x9 = iZ (j + 1) := ex9.trans (iZ_add _ _)
            refine fz_ld (k := (754 + 0 * 261 + 1 + (i).toNat)) (n := 62) hx hb hK hP 0 (by omega) (mE_leastR (by omega) (by omega)) rfl ⟨by omega, by omega⟩ (by decide) dX10_common_163 ?_
            rw [show μ (754 + 0 * 261 + 1 + (i).toNat) (j + 1).toNat = μ (754 + 0 * 261 + 1 + i.toNat) (j.toNat + 1) from (by rw [ej])]
            refine va_calli (va_runS (As := [.int (iZ (μ (754 + 0 * 261 + 1 + (i.toNat + 1)) j.toNat)), .int (iZ (μ (754 + 0 * 261 + 1 + i.toNat) (j.toNat + 1)))]) (rest := [.int (iZ (j)), .ref (h0 + (754 + 0 * 261 + 1 + (i).toNat))]) ⟨hx, hb, hml, hown, hts⟩ (m_more l dC dI cI cZ cII cIII h0 H.size μ (μ (754 + 0 * 261 + 1 + (i.toNat + 1)) j.toNat) (μ (754 + 0 * 261 + 1 + i.toNat) (j.toNat + 1)) (by constructor <;> omega) (by constructor <;> omega)) (cwS 2 hts (gS_G k1600 k1601 k13 k1602) rfl rfl rfl (by decide +kernel) ⟨by show 1 + 1 ≤ _; omega, by show 8 + (2 + 11) + (14) ≤ _; omega⟩) ⟨fun a U g mk q => by obtain ⟨q0, q1, qP, qK⟩ := q; exact ⟨q0, q1, qP, va_K.moved (u := U) (U := U.calling g mk a) (Vm.Alike.refl U.vm) qK⟩, fun U hU hW => ⟨rfl, by rw [hU], by rw [hU]; exact hP, va_K.moved hW.alike hK⟩⟩ rfl rfl hl.1 rfl (lv_room (Nat.le_of_ble_eq_true rfl)) dX10_common_164 ⟨hRc, hRs⟩) hS (fun q _ h => fA_le hS.1 q h) (fA_le hS.1) (fun r9 u9 t9 H1 locs ht9 hvm9 hw9 hB9 hz9 hk9 hS => ?_)
            obtain ⟨μ2, r3⟩ := u9
            obtain ⟨hP, -⟩ := hB9
            rw [ht9] at hP
            generalize H1 = H at hP hS ⊢
            obtain ⟨e9, hw9⟩ := hw9
            have e9 : r9 = iZ r3 := e9
            subst e9
            simp only at hP hw9
            have hμ2 := hw9; clear hw9
            rw [hμ2.1] at hP; have hμ2 := hμ2.2
            refine fz_st (k := (754 + 0 * 261 + 1 + (i).toNat)) (n := 62) (i := j) (z := r3) hx hb hK hP fA_in hS 0 (by omega) (mE_leastR (by omega) (by omega)) rfl ⟨by omega, by omega⟩ (by decide) dX10_common_167 (fun H locs hP hS => ?_)
            obtain ⟨μ4, eμ4⟩ : ∃ x : va_M, x = uz μ (754 + 0 * 261 + 1 + (i).toNat) (j).toNat (r3) := ⟨_, rfl⟩
            rw [← eμ4] at hP
            refine lv_iinc (v := iZ (j - 1)) (lv' := [(5, .int (iZ (j - 1))), (4, .int (iZ (i))), (3, .ref (h0 + (754 + 0 * 261))), (2, .int (iZ (pq))), (1, .int (iZ (pp))), (0, .ref h0)]) hx hb dX10_common_168 hl (k := 0) rfl (iZ_add _ (-1)) (by decide) rfl (fun ls hl => ?_)
            refine lv_goto (tgt := 65) hx hb dX10_common_171 (by decide) ?_
            exact ih (j - 1) μ4 H locs ls (by omega) (by
                                subst eμ4
                                exact fr_uz hf (by show 755 ≤ _ ∧ _; omega)) (by
                                intro a b h1 h2 h3
                                subst eμ4
                                by_cases h4 : a = i.toNat ∧ b = j.toNat
                                · obtain ⟨rfl, rfl⟩ := h4
                                  rw [uz_s]
                                  first | omega | (have h9 := hμ2; omega) | (have h9 := hμ2; split at h9 <;> omega)
                                · rw [uz_n (by omega)]; exact hv a b (by omega) h2 h3) (by
                                intro a b h1 h2 h3
                                subst eμ4
                                by_cases h4 : a = i.toNat ∧ b = j.toNat
                                · obtain ⟨rfl, rfl⟩ := h4
                                  unfold lpR
                                  rw [uz_s]
                                  exact lpR_2 (by omega) (by omega) (by omega) (hx9 (i.toNat + 1) j.toNat (by omega) (by omega) (by omega)) (hx9 i.toNat (j.toNat + 1) (by omega) (by omega) (by omega)) (by have h9 := hμ2; omega)
                                · exact lpR_n (hx9 a b (by omega) h2 h3) (uz_n (by omega))) (by omega) hP hS (lv_sub hl [0, 1, 2, 3, 4, 5] rfl)
          · refine lv_iconst (v := iZ 1) hx hb dX10_common_130 rfl ?_
            refine lv_aload_n hx hb dX10_common_131 rfl (lv_at hl 2 rfl) ?_
            refine lv_iload hx hb dX10_common_132 (lv_at hl 1 rfl) ?_
            refine lv_iconst (v := iZ 1) hx hb dX10_common_134 rfl ?_
            refine lv_iadd hx hb dX10_common_135 ?_
            refine lv_topi (fun x9 ex9 => ?_)
            obtain rfl : x9 = iZ (i + 1) := ex9.trans (iZ_add _ _)
            refine fz_ald (k := (754 + 0 * 261)) (n := 260) (k2 := (754 + 0 * 261 + 1 + (i + 1).toNat)) hx hb hK hP 2 rfl (by omega) (mE_leastM (by omega)) rfl ⟨by omega, by omega⟩ (by decide) (if_pos (by omega)) dX10_common_136 ?_
            refine lv_iload hx hb dX10_common_137 (lv_at hl 0 rfl) ?_
            refine lv_iconst (v := iZ 1) hx hb dX10_common_139 rfl ?_
            refine lv_iadd hx hb dX10_common_140 ?_
            refine lv_topi (fun x9 ex9 => ?_)
            obtain rfl : x9 = iZ (j + 1) := ex9.trans (iZ_add _ _)
            refine fz_ld (k := (754 + 0 * 261 + 1 + (i + 1).toNat)) (n := 62) hx hb hK hP 0 (by omega) (mE_leastR (by omega) (by omega)) rfl ⟨by omega, by omega⟩ (by decide) dX10_common_141 ?_
            rw [show μ (754 + 0 * 261 + 1 + (i + 1).toNat) (j + 1).toNat = μ (754 + 0 * 261 + 1 + (i.toNat + 1)) (j.toNat + 1) from (by rw [ei, ej])]
            refine lv_iadd hx hb dX10_common_142 ?_
            refine lv_topi (fun x9 ex9 => ?_)
            obtain rfl : x9 = iZ (1 + (μ (754 + 0 * 261 + 1 + (i.toNat + 1)) (j.toNat + 1))) := ex9.trans (iZ_add _ _)
            refine lv_goto (tgt := 167) hx hb dX10_common_143 (by decide) ?_
            refine fz_st (k := (754 + 0 * 261 + 1 + (i).toNat)) (n := 62) (i := j) (z := (1 + (μ (754 + 0 * 261 + 1 + (i.toNat + 1)) (j.toNat + 1)))) hx hb hK hP fA_in hS 0 (by omega) (mE_leastR (by omega) (by omega)) rfl ⟨by omega, by omega⟩ (by decide) dX10_common_167 (fun H locs hP hS => ?_)
            obtain ⟨μ5, eμ5⟩ : ∃ x : va_M, x = uz μ (754 + 0 * 261 + 1 + (i).toNat) (j).toNat (1 + (μ (754 + 0 * 261 + 1 + (i.toNat + 1)) (j.toNat + 1))) := ⟨_, rfl⟩
            rw [← eμ5] at hP
            refine lv_iinc (v := iZ (j - 1)) (lv' := [(5, .int (iZ (j - 1))), (4, .int (iZ (i))), (3, .ref (h0 + (754 + 0 * 261))), (2, .int (iZ (pq))), (1, .int (iZ (pp))), (0, .ref h0)]) hx hb dX10_common_168 hl (k := 0) rfl (iZ_add _ (-1)) (by decide) rfl (fun ls hl => ?_)
            refine lv_goto (tgt := 65) hx hb dX10_common_171 (by decide) ?_
            exact ih (j - 1) μ5 H locs ls (by omega) (by
                                subst eμ5
                                exact fr_uz hf (by show 755 ≤ _ ∧ _; omega)) (by
                                intro a b h1 h2 h3
                                subst eμ5
                                by_cases h4 : a = i.toNat ∧ b = j.toNat
                                · obtain ⟨rfl, rfl⟩ := h4
                                  rw [uz_s]
                                  first | omega | (have h9 := h?; omega) | (have h9 := h?; split at h9 <;> omega)
                                · rw [uz_n (by omega)]; exact hv a b (by omega) h2 h3) (by
                                intro a b h1 h2 h3
                                subst eμ5
                                by_cases h4 : a = i.toNat ∧ b = j.toNat
                                · obtain ⟨rfl, rfl⟩ := h4
                                  unfold lpR
                                  rw [uz_s]
                                  exact lpR_1 (by omega) (by omega) (by omega) (hx9 (i.toNat + 1) (j.toNat + 1) (by omega) (by omega) (by omega))
                                · exact lpR_n (hx9 a b (by omega) h2 h3) (uz_n (by omega))) (by omega) hP hS (lv_sub hl [0, 1, 2, 3, 4, 5] rfl)
        · refine lv_aload_n hx hb dX10_common_92 rfl (lv_at hl 2 rfl) ?_
          refine lv_iload hx hb dX10_common_93 (lv_at hl 1 rfl) ?_
          refine fz_ald (k := (754 + 0 * 261)) (n := 260) (k2 := (754 + 0 * 261 + 1 + (i).toNat)) hx hb hK hP 2 rfl (by omega) (mE_leastM (by omega)) rfl ⟨by omega, by omega⟩ (by decide) (if_pos (by omega)) dX10_common_95 ?_
          refine lv_iload hx hb dX10_common_96 (lv_at hl 0 rfl) ?_
          refine lv_iconst (v := iZ 0) hx hb dX10_common_98 rfl ?_
          refine fz_st (k := (754 + 0 * 261 + 1 + (i).toNat)) (n := 62) (i := j) (z := 0) hx hb hK hP fA_in hS 0 (by omega) (mE_leastR (by omega) (by omega)) rfl ⟨by omega, by omega⟩ (by decide) dX10_common_99 (fun H locs hP hS => ?_)
          obtain ⟨μ6, eμ6⟩ : ∃ x : va_M, x = uz μ (754 + 0 * 261 + 1 + (i).toNat) (j).toNat (0) := ⟨_, rfl⟩
          rw [← eμ6] at hP
          refine lv_goto (tgt := 168) hx hb dX10_common_100 (by decide) ?_
          refine lv_iinc (v := iZ (j - 1)) (lv' := [(5, .int (iZ (j - 1))), (4, .int (iZ (i))), (3, .ref (h0 + (754 + 0 * 261))), (2, .int (iZ (pq))), (1, .int (iZ (pp))), (0, .ref h0)]) hx hb dX10_common_168 hl (k := 0) rfl (iZ_add _ (-1)) (by decide) rfl (fun ls hl => ?_)
          refine lv_goto (tgt := 65) hx hb dX10_common_171 (by decide) ?_
          exact ih (j - 1) μ6 H locs ls (by omega) (by
                            subst eμ6
                            exact fr_uz hf (by show 755 ≤ _ ∧ _; omega)) (by
                            intro a b h1 h2 h3
                            subst eμ6
                            by_cases h4 : a = i.toNat ∧ b = j.toNat
                            · obtain ⟨rfl, rfl⟩ := h4
                              rw [uz_s]
                              first | omega | (have h9 := h?; omega) | (have h9 := h?; split at h9 <;> omega)
                            · rw [uz_n (by omega)]; exact hv a b (by omega) h2 h3) (by
                            intro a b h1 h2 h3
                            subst eμ6
                            by_cases h4 : a = i.toNat ∧ b = j.toNat
                            · obtain ⟨rfl, rfl⟩ := h4
                              unfold lpR
                              rw [uz_s]
                              exact lpR_0 (by omega)
                            · exact lpR_n (hx9 a b (by omega) h2 h3) (uz_n (by omega))) (by omega) hP hS (lv_sub hl [0, 1, 2, 3, 4, 5] rfl)
set_option maxHeartbeats 4000000 in
set_option maxRecDepth 100000 in
theorem LX10_common_52b {p : Program} {l : Launch} {e : Env} {R : Room} {s : State} {m : MethodId} {args : Array Value} {below : List Frame} {meth : Method} {c : Code} {cells slots : Nat} {Q : State → Prop} {dC : Nat → ClassId} {dI : Nat → Nat → Nat} {h0 : Nat} {cI cZ cII cIII : ClassId} (hx : p.tables.exec = Jvm.exec) (hb : c.code = cX10_common) (hml : c.maxLocals = 6) (hown : s.vm.findClass RX10 = some m.cls) (hts : ∀ w ∈ wsG, w.before args s = true) (hK : va_K (dC, dI) vwCl (mT cI cZ cII cIII) s) (hRf : 3 ≤ R.frames) (hRl : 57 ≤ R.locals) (hRc : cells ≤ R.cells) (hRs : slots ≤ R.slots) (μ0 : va_M) (pp : Int) (pq : Int) (hpp : 0 ≤ pp ∧ pp < 8) (hpq : 0 ≤ pq ∧ pq < 8) (hP : 0 ≤ μ0 15 pp.toNat ∧ μ0 15 pp.toNat ≤ 60) (hQ : 0 ≤ μ0 15 pq.toNat ∧ μ0 15 pq.toNat ≤ 60) (hTp : ∀ k : Nat, (k : Int) < μ0 15 pp.toNat → inR (μ0 (7 + pp.toNat) k)) (hTq : ∀ k : Nat, (k : Int) < μ0 15 pq.toNat → inR (μ0 (7 + pq.toNat) k)) (hexit180 : ∀ (i : Int) (μ : va_M) (H : Heap) (locs : List Loc) (ls : Array Slot), (fr (fun x y => 755 ≤ x ∧ x < 1015) μ0 μ) → (lpR μ (μ0 (7 + pp.toNat)) (μ0 (7 + pq.toNat)) (μ0 15 pp.toNat).toNat (μ0 15 pq.toNat).toNat 0 0) → (0 ≤ μ (754 + 0 * 261 + 1 + 0) 0 ∧ μ (754 + 0 * 261 + 1 + 0) 0 ≤ 60) → va_P (dC, dI) vwCl (fw (mE cI cZ cII cIII h0) h0 6325 μ) H → va_S (fA h0 6325 s.heap.size) s.heap H locs → lv_has ls 6 [(3, .ref (h0 + (754 + 0 * 261)))] → W p l e R s m args below meth c H locs cells slots Q (F0 m 180 ls [])) :
    ∀ (n9 : Nat) (i : Int) (μ : va_M) (H : Heap) (locs : List Loc) (ls : Array Slot), (-1 ≤ i ∧ i ≤ μ0 15 pp.toNat) → (fr (fun x y => 755 ≤ x ∧ x < 1015) μ0 μ) → (∀ a b : Nat, i < (a : Int) → (a : Int) ≤ μ0 15 pp.toNat → (b : Int) ≤ μ0 15 pq.toNat → 0 ≤ μ (754 + 0 * 261 + 1 + a) b ∧ μ (754 + 0 * 261 + 1 + a) b ≤ μ0 15 pp.toNat - a) → (∀ a b : Nat, i < (a : Int) → (a : Int) ≤ μ0 15 pp.toNat → (b : Int) ≤ μ0 15 pq.toNat → lpR μ (μ0 (7 + pp.toNat)) (μ0 (7 + pq.toNat)) (μ0 15 pp.toNat).toNat (μ0 15 pq.toNat).toNat a b) → (i + 2).toNat < n9 → va_P (dC, dI) vwCl (fw (mE cI cZ cII cIII h0) h0 6325 μ) H → va_S (fA h0 6325 s.heap.size) s.heap H locs → lv_has ls 6 [(4, .int (iZ (i))), (3, .ref (h0 + (754 + 0 * 261))), (2, .int (iZ (pq))), (1, .int (iZ (pp))), (0, .ref h0)] → W p l e R s m args below meth c H locs cells slots Q (F0 m 52 ls []) := by
  intro n9
  induction n9 with
  | zero => intro i μ H locs ls hi hf hv hx9 hm9 hP hS hl; exact absurd hm9 (Nat.not_lt_zero _)
  | succ n9 ih =>
    intro i μ H locs ls hi hf hv hx9 hm9 hP hS hl
    have eP := hf 15 pp.toNat (by show ¬ (755 ≤ _ ∧ _); omega)
    have eQ := hf 15 pq.toNat (by show ¬ (755 ≤ _ ∧ _); omega)
    refine lv_iload hx hb dX10_common_52 (lv_at hl 0 rfl) ?_
    refine fz_if_lt (tgt := 180) (by constructor <;> omega) hx hb dX10_common_54 (by decide) (fun c54_ => ?_) (fun c54_ => ?_)
    · exact hexit180 (i) μ H locs ls (by exact hf) (by exact hx9 0 0 (by omega) (by omega) (by omega)) (by
                    have v9 := hv 0 0 (by omega) (by omega) (by omega)
                    omega) hP hS (lv_sub hl [1] rfl)
    · refine lv_aload_n hx hb dX10_common_57 rfl (lv_at hl 4 rfl) ?_
      refine fz_get (D := (dC, dI)) (ci := 10) (v := .ref (h0 + 15)) (C := RX10) (T := TX10) (N := 53) hx hb hts inG10 hown hK hP (k := 0) (by decide) (F := mF h0) mE_obj rfl 15 (by decide) (hts _ k1181) (fun _ h9 => h9) rfl dX10_common_58 ?_
      refine lv_iload_n hx hb dX10_common_61 rfl (lv_at hl 2 rfl) ?_
      refine fz_ld (k := 15) (n := 8) hx hb hK hP 0 (by decide) mE_pageLong rfl ⟨by omega, by omega⟩ (by decide) dX10_common_62 ?_
      refine lv_istore (lv' := [(5, .int (iZ (μ 15 (pq).toNat))), (4, .int (iZ (i))), (3, .ref (h0 + (754 + 0 * 261))), (2, .int (iZ (pq))), (1, .int (iZ (pp))), (0, .ref h0)]) hx hb dX10_common_63 hl (by decide) rfl (fun ls hl => ?_)
      refine LX10_common_65b hx hb hml hown hts hK hRf hRl hRc hRs (μ0) (pp) (pq) (i) (by assumption) (by assumption) (by assumption) (by assumption) (by assumption) (by assumption) (by omega) ?_ _ (μ 15 (pq).toNat) μ H locs ls (by omega) (by exact hf) (by
                    intro a b h1 h2 h3
                    exact hv a b (by omega) h2 h3) (by
                    intro a b h1 h2 h3
                    exact hx9 a b (by omega) h2 h3) (Nat.lt_succ_self _) hP hS (lv_sub hl [0, 1, 2, 3, 4, 5] rfl)
      · intro j_7 μ7_ H locs ls q1_7 q2_7 q4_7 hP hS hl
        have hl : lv_has ls 6 [(4, .int (iZ (i))), (3, .ref (h0 + (754 + 0 * 261))), (2, .int (iZ (pq))), (1, .int (iZ (pp))), (0, .ref h0)] := hl
        refine lv_iinc (v := iZ (i - 1)) (lv' := [(4, .int (iZ (i - 1))), (3, .ref (h0 + (754 + 0 * 261))), (2, .int (iZ (pq))), (1, .int (iZ (pp))), (0, .ref h0)]) hx hb dX10_common_174 hl (k := 0) rfl (iZ_add _ (-1)) (by decide) rfl (fun ls hl => ?_)
        refine lv_goto (tgt := 52) hx hb dX10_common_177 (by decide) ?_
        exact ih (i - 1) μ7_ H locs ls (by omega) (by exact q1_7) (by
                        intro a b h1 h2 h3
                        exact q2_7 a b (by omega) h2 h3) (by
                        intro a b h1 h2 h3
                        exact q4_7 a b (by omega) h2 h3) (by omega) hP hS (lv_sub hl [0, 1, 2, 3, 4] rfl)
set_option maxHeartbeats 4000000 in
set_option maxRecDepth 100000 in
theorem f_common (l : Launch) (dC : Nat → ClassId) (dI : Nat → Nat → Nat) (cI cZ cII cIII : ClassId) (h0 sz : Nat) (μ : va_M) (pp : Int) (pq : Int) (hQ : RQ μ) (hp : inR pp) (hq : inR pq) : Met l yX10_common (Cond.code yX10_common cX10_common 6 (some .int) :: wsG) ({ frames := 3, cells := 0, slots := 0, locals := 57 } : Room) (va_Pc [.ref h0, .int (iZ (pp)), .int (iZ (pq))] (fun U => U.heap.size = sz ∧ va_P (dC, dI) vwCl (fw (mE cI cZ cII cIII h0) h0 6325 μ) U.heap ∧ va_K (dC, dI) vwCl (mT cI cZ cII cIII) U)) (va_Qi (fun (r9 : Int32) (u : va_M × Int) => r9 = iZ u.2 ∧ (fun (u : va_M) (r : Int) => (fr PS μ u ∧ (u 0 0 = 0 ∨ u 0 0 = 1 ∨ u 0 0 = 2)) ∧ u 0 0 = cd2 ((0 ≤ pp ∧ pp < μ 0 10) ∧ 0 ≤ pq ∧ pq < μ 0 10) True ∧ (cd2 ((0 ≤ pp ∧ pp < μ 0 10) ∧ 0 ≤ pq ∧ pq < μ 0 10) True = 0 → r = lc9 (μ (7 + pp.toNat)) (μ (7 + pq.toNat)) (μ 15 pp.toNat).toNat (μ 15 pq.toNat).toNat)) u.1 u.2) (fun u t => va_P (dC, dI) vwCl (fw (mE cI cZ cII cIII h0) h0 6325 u.1) t.heap ∧ va_K (dC, dI) vwCl (mT cI cZ cII cIII) t) (fA h0 6325 sz)) 0 0 (fA h0 6325 sz) := by
  refine Met.ofW (cc := cX10_common) (maxL := 6) (ret := (some .int)) (by decide) rfl ?_
  intro p e s m args below meth c s₁ B hml hv
  obtain ⟨rfl, hsz, hP, hK⟩ := hv
  have hx := B.exec
  have hb := B.bytes
  have hr := B.returns
  have hts : ∀ w ∈ wsG, w.before _ s = true := hG_of (atoms_spec (ws := (Cond.code yX10_common cX10_common 6 (some .int) :: wsG)) B.pre)
  have hown : s.vm.findClass RX10 = some m.cls := findClass_of_methodNamed B.named
  have hlocks := B.notSynchronized
  subst hsz
  have hS : va_S (fA h0 6325 s.heap.size) s.heap s.heap [] := va_S.rf
  have hl := lv_entry ([.ref h0, .int (iZ (pp)), .int (iZ (pq))]) (n := 6) (Nat.le_of_ble_eq_true rfl)
  rw [lg_entry_eq]
  generalize (lg_sl ([.ref h0, .int (iZ (pp)), .int (iZ (pq))]) ++ List.replicate (6 - (lg_sl ([.ref h0, .int (iZ (pp)), .int (iZ (pq))])).length) Slot.unset).toArray = ls at hl ⊢
  have hl : lv_has ls 6 [(0, .ref h0), (1, .int (iZ (pp))), (2, .int (iZ (pq)))] := hl
  refine lv_aload_n hx hb dX10_common_0 rfl (lv_at hl 0 rfl) ?_
  refine lv_iconst (v := iZ 0) hx hb dX10_common_1 rfl ?_
  refine fz_put (D := (dC, dI)) (ci := 10) (ty := .int) (z := 0) (C := RX10) (T := TX10) (N := 53) hx hb hts inG10 tyX10 tyX10_ok nmX10 hown hK hP fA_in hS (k := 0) (by decide) (F := mF h0) mE_obj rfl 0 (by decide) (hts _ k1166) (fun _ h9 => h9) rfl (by decide +kernel) rfl rfl (fun _ => Nat.le_of_ble_eq_true rfl) (fun _ _ => rfl) dX10_common_2 (fun H locs hP hS => ?_)
  obtain ⟨μ8, eμ8⟩ : ∃ x : va_M, x = uz μ 0 0 (0) := ⟨_, rfl⟩
  rw [← eμ8] at hP
  have hfr : fr PS μ μ8 := by rw [eμ8]; exact fr_uz fr_rfl (by unfold PS; omega)
  have ht0 : μ8 0 0 = 0 := by rw [eμ8, uz_s]
  have e10 := hfr 0 10 (PS_n (by omega))
  have e9 := hfr 0 9 (PS_n (by omega))
  have e71 := hfr 719 0 (PS_n (by omega))
  have hQ1 := RQ_fr hQ hfr
  have hQc := hQ
  obtain ⟨f10, ⟨fT, fTb, fTw⟩, fS3, fPg, fw9, fwB, fwT⟩ := hQc
  obtain ⟨g10, ⟨gT, gTb, gTw⟩, gS3, gPg, gw, gwB, gwT⟩ := hQ1
  have gtk := TR_tok gwT gwB.1 gwB.2.1
  have gt1 := gtk.1
  have gt2 := gtk.2.1
  refine lv_aload_n hx hb dX10_common_5 rfl (lv_at hl 0 rfl) ?_
  refine lv_aload_n hx hb dX10_common_6 rfl (lv_at hl 0 rfl) ?_
  refine lv_iload_n hx hb dX10_common_7 rfl (lv_at hl 1 rfl) ?_
  refine va_calli (va_runV (As := [.int (iZ (pp))]) (rest := [.ref h0]) ⟨hx, hb, hml, hown, hts⟩ (m_isPage l dC dI cI cZ cII cIII h0 H.size μ8 (pp) (by first | assumption | omega | exact ⟨by omega, by omega⟩) (by first | assumption | omega | exact ⟨by omega, by omega⟩)) (cwV 1 hts (gV_G k1588 k1590 ks_yX10_isPage k13 k1591) rfl rfl rfl (by decide +kernel) ⟨Nat.le_of_ble_eq_true rfl, Nat.le_of_ble_eq_true rfl⟩) ⟨fun a U g mk q => by obtain ⟨q0, q1, qP, qK⟩ := q; exact ⟨q0, q1, qP, va_K.moved (u := U) (U := U.calling g mk a) (Vm.Alike.refl U.vm) qK⟩, va_recv hK hP (ci := 10) (q0 := 0) rfl ((fw_get (by decide)).trans (by rw [mE_obj]; rfl)), fun U hU hW => ⟨rfl, by rw [hU], by rw [hU]; exact hP, va_K.moved hW.alike hK⟩⟩ rfl rfl hl.1 rfl (lv_room (Nat.le_of_ble_eq_true rfl)) dX10_common_8 ⟨Nat.le_of_ble_eq_true rfl, Nat.le_of_ble_eq_true rfl⟩) hS (fun q _ h => fA_le hS.1 q h) (fA_le hS.1) (fun r9 u9 t9 H1 locs ht9 hvm9 hw9 hB9 hz9 hk9 hS => ?_)
  obtain ⟨μ10, r11⟩ := u9
  obtain ⟨hP, -⟩ := hB9
  rw [ht9] at hP
  generalize H1 = H at hP hS ⊢
  obtain ⟨e9, hw9⟩ := hw9
  have e9 : r9 = iZ r11 := e9
  subst e9
  simp only at hP hw9
  have hμ10 := hw9; clear hw9
  rw [hμ10.1] at hP; have hμ10 := hμ10.2
  have hip := hμ10
  have hip2 := if_01 hμ10
  refine fz_if_eq (tgt := 22) (by constructor <;> omega) hx hb dX10_common_11 (by decide) (fun c11_ => ?_) (fun c11_ => ?_)
  · have hpn := if_not hip (by omega)
    refine lv_iconst (v := iZ 1) hx hb dX10_common_22 rfl ?_
    refine lv_goto (tgt := 27) hx hb dX10_common_23 (by decide) ?_
    refine lv_iconst (v := iZ 1) hx hb dX10_common_27 rfl ?_
    refine lv_iconst (v := iZ 0) hx hb dX10_common_28 rfl ?_
    refine va_calli (va_runV (As := [.int (iZ (1)), .int (iZ (1)), .int (iZ (0))]) (rest := []) ⟨hx, hb, hml, hown, hts⟩ (m_bad2 l dC dI cI cZ cII cIII h0 H.size μ8 (1) (1) (0) (by first | assumption | omega | exact ⟨by omega, by omega⟩) (by first | assumption | omega | exact ⟨by omega, by omega⟩) (by first | assumption | omega | exact ⟨by omega, by omega⟩) (by first | assumption | omega | exact ⟨by omega, by omega⟩)) (cwV 3 hts (gV_G k1342 k1344 ks_yX10_bad k13 k1345) rfl rfl rfl (by decide +kernel) ⟨Nat.le_of_ble_eq_true rfl, Nat.le_of_ble_eq_true rfl⟩) ⟨fun a U g mk q => by obtain ⟨q0, q1, qP, qK⟩ := q; exact ⟨q0, q1, qP, va_K.moved (u := U) (U := U.calling g mk a) (Vm.Alike.refl U.vm) qK⟩, va_recv hK hP (ci := 10) (q0 := 0) rfl ((fw_get (by decide)).trans (by rw [mE_obj]; rfl)), fun U hU hW => ⟨rfl, by rw [hU], by rw [hU]; exact hP, va_K.moved hW.alike hK⟩⟩ rfl rfl hl.1 rfl (lv_room (Nat.le_of_ble_eq_true rfl)) dX10_common_29 ⟨Nat.le_of_ble_eq_true rfl, Nat.le_of_ble_eq_true rfl⟩) hS (fun q _ h => fA_le hS.1 q h) (fA_le hS.1) (fun r9 u9 t9 H1 locs ht9 hvm9 hw9 hB9 hz9 hk9 hS => ?_)
    obtain ⟨μ12, r13⟩ := u9
    obtain ⟨hP, -⟩ := hB9
    rw [ht9] at hP
    generalize H1 = H at hP hS ⊢
    obtain ⟨e9, hw9⟩ := hw9
    have e9 : r9 = iZ r13 := e9
    subst e9
    simp only at hP hw9
    have hμ12 := hw9; clear hw9
    have hfr := fr_trans hfr (badP_fr hμ12)
    have hrb := badP_r hμ12
    obtain rfl : r13 = 1 := by omega
    refine fz_if_eq (tgt := 37) (by decide) hx hb dX10_common_32 (by decide) (fun h9 => absurd h9 (by decide)) (fun c32_ => ?_)
    refine lv_iconst (v := iZ 0) hx hb dX10_common_35 rfl ?_
    exact W.iret (v := iZ (0)) hx hb hr (fun t9 ht9 hW9 => ⟨⟨iZ (0), (μ12, 0), rfl, ⟨rfl, (by
                dsimp only
                have cd9 : cd2 ((0 ≤ pp ∧ pp < μ 0 10) ∧ 0 ≤ pq ∧ pq < μ 0 10) True = 1 := cd2_1 (by omega)
                exact ⟨⟨hfr, by omega⟩, by omega, fun hc => absurd (cd9.symm.trans hc) (by decide)⟩)⟩, by rw [ht9]; exact hP, va_K.moved hW9.alike hK⟩, hS.F ht9⟩) hS.2.2 dX10_common_36
  · have hpp := if_get hip (by omega)
    refine lv_aload_n hx hb dX10_common_14 rfl (lv_at hl 0 rfl) ?_
    refine lv_iload_n hx hb dX10_common_15 rfl (lv_at hl 2 rfl) ?_
    refine va_calli (va_runV (As := [.int (iZ (pq))]) (rest := [.ref h0]) ⟨hx, hb, hml, hown, hts⟩ (m_isPage l dC dI cI cZ cII cIII h0 H.size μ8 (pq) (by first | assumption | omega | exact ⟨by omega, by omega⟩) (by first | assumption | omega | exact ⟨by omega, by omega⟩)) (cwV 1 hts (gV_G k1588 k1590 ks_yX10_isPage k13 k1591) rfl rfl rfl (by decide +kernel) ⟨Nat.le_of_ble_eq_true rfl, Nat.le_of_ble_eq_true rfl⟩) ⟨fun a U g mk q => by obtain ⟨q0, q1, qP, qK⟩ := q; exact ⟨q0, q1, qP, va_K.moved (u := U) (U := U.calling g mk a) (Vm.Alike.refl U.vm) qK⟩, va_recv hK hP (ci := 10) (q0 := 0) rfl ((fw_get (by decide)).trans (by rw [mE_obj]; rfl)), fun U hU hW => ⟨rfl, by rw [hU], by rw [hU]; exact hP, va_K.moved hW.alike hK⟩⟩ rfl rfl hl.1 rfl (lv_room (Nat.le_of_ble_eq_true rfl)) dX10_common_16 ⟨Nat.le_of_ble_eq_true rfl, Nat.le_of_ble_eq_true rfl⟩) hS (fun q _ h => fA_le hS.1 q h) (fA_le hS.1) (fun r9 u9 t9 H1 locs ht9 hvm9 hw9 hB9 hz9 hk9 hS => ?_)
    obtain ⟨μ14, r15⟩ := u9
    obtain ⟨hP, -⟩ := hB9
    rw [ht9] at hP
    generalize H1 = H at hP hS ⊢
    obtain ⟨e9, hw9⟩ := hw9
    have e9 : r9 = iZ r15 := e9
    subst e9
    simp only at hP hw9
    have hμ14 := hw9; clear hw9
    rw [hμ14.1] at hP; have hμ14 := hμ14.2
    have hjn := hμ14
    have hjn2 := if_01 hμ14
    refine fz_if_ne (tgt := 26) (by constructor <;> omega) hx hb dX10_common_19 (by decide) (fun c19_ => ?_) (fun c19_ => ?_)
    · have hqq := if_get hjn (by omega)
      refine lv_iconst (v := iZ 0) hx hb dX10_common_26 rfl ?_
      refine lv_iconst (v := iZ 1) hx hb dX10_common_27 rfl ?_
      refine lv_iconst (v := iZ 0) hx hb dX10_common_28 rfl ?_
      refine va_calli (va_runV (As := [.int (iZ (0)), .int (iZ (1)), .int (iZ (0))]) (rest := []) ⟨hx, hb, hml, hown, hts⟩ (m_bad2 l dC dI cI cZ cII cIII h0 H.size μ8 (0) (1) (0) (by first | assumption | omega | exact ⟨by omega, by omega⟩) (by first | assumption | omega | exact ⟨by omega, by omega⟩) (by first | assumption | omega | exact ⟨by omega, by omega⟩) (by first | assumption | omega | exact ⟨by omega, by omega⟩)) (cwV 3 hts (gV_G k1342 k1344 ks_yX10_bad k13 k1345) rfl rfl rfl (by decide +kernel) ⟨Nat.le_of_ble_eq_true rfl, Nat.le_of_ble_eq_true rfl⟩) ⟨fun a U g mk q => by obtain ⟨q0, q1, qP, qK⟩ := q; exact ⟨q0, q1, qP, va_K.moved (u := U) (U := U.calling g mk a) (Vm.Alike.refl U.vm) qK⟩, va_recv hK hP (ci := 10) (q0 := 0) rfl ((fw_get (by decide)).trans (by rw [mE_obj]; rfl)), fun U hU hW => ⟨rfl, by rw [hU], by rw [hU]; exact hP, va_K.moved hW.alike hK⟩⟩ rfl rfl hl.1 rfl (lv_room (Nat.le_of_ble_eq_true rfl)) dX10_common_29 ⟨Nat.le_of_ble_eq_true rfl, Nat.le_of_ble_eq_true rfl⟩) hS (fun q _ h => fA_le hS.1 q h) (fA_le hS.1) (fun r9 u9 t9 H1 locs ht9 hvm9 hw9 hB9 hz9 hk9 hS => ?_)
      obtain ⟨μ16, r17⟩ := u9
      obtain ⟨hP, -⟩ := hB9
      rw [ht9] at hP
      generalize H1 = H at hP hS ⊢
      obtain ⟨e9, hw9⟩ := hw9
      have e9 : r9 = iZ r17 := e9
      subst e9
      simp only at hP hw9
      have hμ16 := hw9; clear hw9
      have hfr := fr_trans hfr (badP_fr hμ16)
      have hrb := badP_r hμ16
      obtain rfl : r17 = 0 := by omega
      refine fz_if_eq (tgt := 37) (by decide) hx hb dX10_common_32 (by decide) (fun c32_ => ?_) (fun h9 => absurd h9 (by decide))
      have hQ2 := RQ_fr hQ hfr
      obtain ⟨k10, ⟨kT, kTb, kTw⟩, kS3, kPg, kw, kwB, kwT⟩ := hQ2
      have e10k := hfr 0 10 (PS_n (by omega))
      have e9k := hfr 0 9 (PS_n (by omega))
      have e71k := hfr 719 0 (PS_n (by omega))
      have ktk := TR_tok kwT kwB.1 kwB.2.1
      have kt1 := ktk.1
      have kt2 := ktk.2.1
      obtain ⟨p1, p2, p3, pw, pw1, pw2, pw3⟩ := kPg pp.toNat (by omega)
      obtain ⟨r1, r2, r3, rw1, rw2, rw3, rw4⟩ := kPg pq.toNat (by omega)
      have kT1 := kTb.1
      have kT2 := kTb.2.1
      refine lv_aload_n hx hb dX10_common_37 rfl (lv_at hl 0 rfl) ?_
      refine fz_get (D := (dC, dI)) (ci := 10) (v := .ref (h0 + 753)) (C := RX10) (T := TX10) (N := 53) hx hb hts inG10 hown hK hP (k := 0) (by decide) (F := mF h0) mE_obj rfl 32 (by decide) (hts _ k1198) (fun _ h9 => h9) rfl dX10_common_38 ?_
      refine lv_iconst (v := iZ 0) hx hb dX10_common_41 rfl ?_
      refine fz_ald (k := 753) (n := 14) (k2 := (754 + 0 * 261)) hx hb hK hP 3 rfl (by decide) mE_least rfl ⟨by omega, by omega⟩ (by decide) (if_pos (by omega)) dX10_common_42 ?_
      refine lv_astore_n (lv' := [(3, .ref (h0 + (754 + 0 * 261))), (0, .ref h0), (1, .int (iZ (pp))), (2, .int (iZ (pq)))]) hx hb dX10_common_43 rfl hl (by decide) rfl (fun ls hl => ?_)
      refine lv_aload_n hx hb dX10_common_44 rfl (lv_at hl 1 rfl) ?_
      refine fz_get (D := (dC, dI)) (ci := 10) (v := .ref (h0 + 15)) (C := RX10) (T := TX10) (N := 53) hx hb hts inG10 hown hK hP (k := 0) (by decide) (F := mF h0) mE_obj rfl 15 (by decide) (hts _ k1181) (fun _ h9 => h9) rfl dX10_common_45 ?_
      refine lv_iload_n hx hb dX10_common_48 rfl (lv_at hl 2 rfl) ?_
      refine fz_ld (k := 15) (n := 8) hx hb hK hP 0 (by decide) mE_pageLong rfl ⟨by omega, by omega⟩ (by decide) dX10_common_49 ?_
      refine lv_istore (lv' := [(4, .int (iZ (μ16 15 (pp).toNat))), (3, .ref (h0 + (754 + 0 * 261))), (0, .ref h0), (1, .int (iZ (pp))), (2, .int (iZ (pq)))]) hx hb dX10_common_50 hl (by decide) rfl (fun ls hl => ?_)
      refine LX10_common_52b hx hb hml hown hts hK (Nat.le_of_ble_eq_true rfl) (Nat.le_of_ble_eq_true rfl) (Nat.le_of_ble_eq_true rfl) (Nat.le_of_ble_eq_true rfl) (μ16) (pp) (pq) (by omega) (by omega) (by omega) (by omega) (by intro k hk; have := p3 k hk; constructor <;> omega) (by intro k hk; have := r3 k hk; constructor <;> omega) ?_ _ (μ16 15 (pp).toNat) μ16 H locs ls (by omega) (by exact fr_rfl) (by intro a b h1 h2 h3; omega) (by intro a b h1 h2 h3; omega) (Nat.lt_succ_self _) hP hS (lv_sub hl [0, 1, 4, 3, 2] rfl)
      · intro i_18 μ18_ H locs ls q3_18 q5_18 q6_18 hP hS hl
        have hl : lv_has ls 6 [(3, .ref (h0 + (754 + 0 * 261)))] := hl
        refine lv_aload_n hx hb dX10_common_180 rfl (lv_at hl 0 rfl) ?_
        refine lv_iconst (v := iZ 0) hx hb dX10_common_181 rfl ?_
        refine fz_ald (k := (754 + 0 * 261)) (n := 260) (k2 := (754 + 0 * 261 + 1 + 0)) hx hb hK hP 2 rfl (by omega) (mE_leastM (by omega)) rfl ⟨by omega, by omega⟩ (by decide) (if_pos (by omega)) dX10_common_182 ?_
        refine lv_iconst (v := iZ 0) hx hb dX10_common_183 rfl ?_
        refine fz_ld (k := (754 + 0 * 261 + 1 + 0)) (n := 62) hx hb hK hP 0 (by omega) (mE_leastR (by omega) (by omega)) rfl ⟨by omega, by omega⟩ (by decide) dX10_common_184 ?_
        rw [show (0 : Int).toNat = 0 from rfl]
        exact W.iret (v := iZ (μ18_ (754 + 0 * 261 + 1 + 0) 0)) hx hb hr (fun t9 ht9 hW9 => ⟨⟨iZ (μ18_ (754 + 0 * 261 + 1 + 0) 0), (μ18_, μ18_ (754 + 0 * 261 + 1 + 0) 0), rfl, ⟨rfl, (by
                        dsimp only
                        have e00 := q3_18 0 0 (by show ¬ (755 ≤ 0 ∧ _); omega)
                        have cd9 : cd2 ((0 ≤ pp ∧ pp < μ 0 10) ∧ 0 ≤ pq ∧ pq < μ 0 10) True = 0 := cd2_0 (by omega) trivial
                        refine ⟨⟨fr_trans hfr (fr_mono q3_18 (fun x y h => by unfold PS; omega)), by omega⟩, by omega, fun _ => ?_⟩
                        have e7 := fun k => hfr (7 + pp.toNat) k (PS_n (by omega))
                        have e8 := fun k => hfr (7 + pq.toNat) k (PS_n (by omega))
                        have e5 := hfr 15 pp.toNat (PS_n (by omega))
                        have e6 := hfr 15 pq.toNat (PS_n (by omega))
                        have z9 := q5_18
                        unfold lpR at z9
                        rw [Nat.sub_zero, Nat.sub_zero, lc9_rev, e5, e6, lc9_eq _ _ (fun k _ => e7 k) (fun k _ => e8 k)] at z9
                        exact z9)⟩, by rw [ht9]; exact hP, va_K.moved hW9.alike hK⟩, hS.F ht9⟩) hS.2.2 dX10_common_185
    · have hqn := if_not hjn (by omega)
      refine lv_iconst (v := iZ 1) hx hb dX10_common_22 rfl ?_
      refine lv_goto (tgt := 27) hx hb dX10_common_23 (by decide) ?_
      refine lv_iconst (v := iZ 1) hx hb dX10_common_27 rfl ?_
      refine lv_iconst (v := iZ 0) hx hb dX10_common_28 rfl ?_
      refine va_calli (va_runV (As := [.int (iZ (1)), .int (iZ (1)), .int (iZ (0))]) (rest := []) ⟨hx, hb, hml, hown, hts⟩ (m_bad2 l dC dI cI cZ cII cIII h0 H.size μ8 (1) (1) (0) (by first | assumption | omega | exact ⟨by omega, by omega⟩) (by first | assumption | omega | exact ⟨by omega, by omega⟩) (by first | assumption | omega | exact ⟨by omega, by omega⟩) (by first | assumption | omega | exact ⟨by omega, by omega⟩)) (cwV 3 hts (gV_G k1342 k1344 ks_yX10_bad k13 k1345) rfl rfl rfl (by decide +kernel) ⟨Nat.le_of_ble_eq_true rfl, Nat.le_of_ble_eq_true rfl⟩) ⟨fun a U g mk q => by obtain ⟨q0, q1, qP, qK⟩ := q; exact ⟨q0, q1, qP, va_K.moved (u := U) (U := U.calling g mk a) (Vm.Alike.refl U.vm) qK⟩, va_recv hK hP (ci := 10) (q0 := 0) rfl ((fw_get (by decide)).trans (by rw [mE_obj]; rfl)), fun U hU hW => ⟨rfl, by rw [hU], by rw [hU]; exact hP, va_K.moved hW.alike hK⟩⟩ rfl rfl hl.1 rfl (lv_room (Nat.le_of_ble_eq_true rfl)) dX10_common_29 ⟨Nat.le_of_ble_eq_true rfl, Nat.le_of_ble_eq_true rfl⟩) hS (fun q _ h => fA_le hS.1 q h) (fA_le hS.1) (fun r9 u9 t9 H1 locs ht9 hvm9 hw9 hB9 hz9 hk9 hS => ?_)
      obtain ⟨μ19, r20⟩ := u9
      obtain ⟨hP, -⟩ := hB9
      rw [ht9] at hP
      generalize H1 = H at hP hS ⊢
      obtain ⟨e9, hw9⟩ := hw9
      have e9 : r9 = iZ r20 := e9
      subst e9
      simp only at hP hw9
      have hμ19 := hw9; clear hw9
      have hfr := fr_trans hfr (badP_fr hμ19)
      have hrb := badP_r hμ19
      obtain rfl : r20 = 1 := by omega
      refine fz_if_eq (tgt := 37) (by decide) hx hb dX10_common_32 (by decide) (fun h9 => absurd h9 (by decide)) (fun c32_ => ?_)
      refine lv_iconst (v := iZ 0) hx hb dX10_common_35 rfl ?_
      exact W.iret (v := iZ (0)) hx hb hr (fun t9 ht9 hW9 => ⟨⟨iZ (0), (μ19, 0), rfl, ⟨rfl, (by
                    dsimp only
                    have cd9 : cd2 ((0 ≤ pp ∧ pp < μ 0 10) ∧ 0 ≤ pq ∧ pq < μ 0 10) True = 1 := cd2_1 (by omega)
                    exact ⟨⟨hfr, by omega⟩, by omega, fun hc => absurd (cd9.symm.trans hc) (by decide)⟩)⟩, by rw [ht9]; exact hP, va_K.moved hW9.alike hK⟩, hS.F ht9⟩) hS.2.2 dX10_common_36


/-! cuts of the reference, told whole -/
def uFix (μ : va_M) (P : Int) (pp c : Nat) : Prop := cOC μ c ∧ μ (4416 + (μ 0 39).toNat) c = P - c ∧ ∀ x : Nat, (x : Int) < μ 0 39 → μ (4416 + x) c = cF μ x c (tkc μ P pp c x)
theorem uFix_fr {Q : Nat → Nat → Prop} {μ u : va_M} {P : Int} {pp c : Nat} (h : uFix μ P pp c) (hf : fr Q μ u) (hp8 : pp < 8) (hq : ∀ x y : Nat, Q x y → CF x ∧ y < c) : uFix u P pp c := by
  have g : ∀ x y : Nat, ¬ (CF x ∧ y < c) → u x y = μ x y := fun x y hn => hf x y (fun hh => hn (hq x y hh))
  have gr : ∀ x : Nat, ¬ CF x → u x = μ x := fun x hn => funext fun y => g x y (fun hh => hn hh.1)
  obtain ⟨h1, h2, h3⟩ := h
  have e39 : u 0 39 = μ 0 39 := g 0 39 (by unfold CF; omega)
  have n1 : ∀ x, nod u x = nod μ x := fun x => by unfold nod; rw [gr 507 (by unfold CF; omega), gr 4412 (by unfold CF; omega)]
  have n2 : ∀ x k, tkD u x k = tkD μ x k := fun x k => by unfold tkD; rw [n1, gr 3 (by unfold CF; omega), gr 578 (by unfold CF; omega), gr 4412 (by unfold CF; omega)]
  have n3 : ∀ x, tkc u P pp c x = tkc μ P pp c x := fun x => by unfold tkc; rw [n1, gr (7 + pp) (by unfold CF; omega), n2, g (4416 + (x + 1)) (c + 1) (by omega), g (4416 + x) (c + 1) (by omega)]
  have n4 : ∀ x tk, cF u x c tk = cF μ x c tk := fun x tk => by unfold cF; rw [n1, gr 4413 (by unfold CF; omega), gr 4414 (by unfold CF; omega), g _ c (by omega), g _ c (by omega)]
  refine ⟨fun x hx => ?_, ?_, fun x hx => ?_⟩
  · rw [e39] at hx
    rw [g _ c (by omega)]; exact h1 x hx
  · rw [e39, g _ c (by omega)]; exact h2
  · rw [e39] at hx
    rw [g _ c (by omega), n3, n4]; exact h3 x hx
theorem cF_st {μ : va_M} {x c : Nat} {tk : Nat → Int} (h : μ (4416 + x) c = cF μ x c (tk x)) : stW μ (wEi 1) tk (fun y => μ (4416 + y) c) x := by
  have e : ∀ v w : Int, wEi 1 v w = min v w := fun v w => by unfold wEi; rw [if_neg (by decide), if_pos rfl]
  unfold stW
  rw [e, e]
  exact h
theorem cu_ref {u : va_M} {Wk : Rw} {n pp : Nat} (hT : TR u 0 Wk) (hw : rWF Wk) (h39 : u 0 39 = rS Wk) (hs : RS u Wk 0 0) (hA : AL (kR u) Wk) (htk : ∀ c : Nat, c < n → 0 ≤ u (7 + pp) c ∧ u (7 + pp) c < 200) (h : ∀ c : Nat, c ≤ n → uFix u n pp c) : cuR Wk (fun c => cdR u (u (7 + pp) c)) n (if u (4416 + 0) 0 ≥ 1000000 then -1 else u (4416 + 0) 0) := by
  have e39 : u 0 39 = (sL Wk : Int) := by rw [h39, rS_sL]
  refine ⟨fun c x => u (4416 + x) c, fun c hc => ?_, rfl⟩
  obtain ⟨h1, h2, h3⟩ := h c hc
  obtain ⟨i1, i2⟩ := st_EQ (ei := wEi 1) (tk := fun x => tkc u n pp c x) (f := fun y => u (4416 + y) c) Wk 0 0 hw hT.2 hs (fun x _ hx => cF_st (h3 x (by omega)))
  have hp := LPw_2 (Q3 := fun x k v => k < 3 ∧ (nod u x = k ∧ u 578 (u 4412 x).toNat = v)) (fun x k v a b => ⟨a, b⟩) Wk 0 (LPw_k Wk 0) (LPw_RS Wk 0 0 hw hT.2 hs)
  have hp2 := LPw_2 (Q3 := fun x k v => (k < 2 → kR u k v) ∧ (k < 2 → v < 200)) (fun x k v a b => ⟨a, b⟩) Wk 0 (LPw_AL Wk 0 hA) (LPw_AL Wk 0 (AL_v Wk hw))
  refine ⟨fun x => tkc u n pp c x, LPw_2 (fun x k v a b => ?_) Wk 0 hp hp2, i1, i2, ?_⟩
  · show tkc u n pp c x = lfU (fun c => cdR u (u (7 + pp) c)) n c x k v (fun x => u (4416 + x) (c + 1))
    unfold tkc lfU
    by_cases hn : c < n
    · rw [if_pos hn]
      have e := tk_kR (e := u (7 + pp) c) a.1 a.2.1 a.2.2 b.1 (htk c hn) b.2
      rw [e]
      by_cases ht : tkI (sG k v) (cdR u (u (7 + pp) c)) = 1
      · rw [if_pos ⟨by omega, by rw [a.2.1]; omega, ht⟩, if_pos ht]
      · rw [if_neg (fun h9 => ht h9.2.2), if_neg ht, if_neg (by omega)]
    · rw [if_neg (fun h9 => hn (by omega)), if_neg hn, if_pos (by omega)]
  · rw [e39, Int.toNat_natCast] at h2
    exact h2
set_option maxHeartbeats 4000000 in
set_option maxRecDepth 100000 in
theorem LX10_cuts_49b {p : Program} {l : Launch} {e : Env} {R : Room} {s : State} {m : MethodId} {args : Array Value} {below : List Frame} {meth : Method} {c : Code} {cells slots : Nat} {Q : State → Prop} {dC : Nat → ClassId} {dI : Nat → Nat → Nat} {h0 : Nat} {cI cZ cII cIII : ClassId} (hx : p.tables.exec = Jvm.exec) (hb : c.code = cX10_cuts) (hml : c.maxLocals = 8) (hown : s.vm.findClass RX10 = some m.cls) (hts : ∀ w ∈ wsG, w.before args s = true) (hK : va_K (dC, dI) vwCl (mT cI cZ cII cIII) s) (hRf : 5 ≤ R.frames) (hRl : 120 ≤ R.locals) (hRc : cells ≤ R.cells) (hRs : slots ≤ R.slots) (μ0 : va_M) (pp : Int) (P9 : Int) (pos : Int) (hO : stOK μ0) (hpos : 0 ≤ pos ∧ pos ≤ 60) (hexit75 : ∀ (q : Int) (μ : va_M) (H : Heap) (locs : List Loc) (ls : Array Slot), (fr (colF pos.toNat) μ0 μ) → (∀ x : Nat, (x : Int) ≤ μ0 0 39 → μ (4416 + x) pos.toNat = 1000000) → va_P (dC, dI) vwCl (fw (mE cI cZ cII cIII h0) h0 6325 μ) H → va_S (fA h0 6325 s.heap.size) s.heap H locs → lv_has ls 8 [(3, .int (iZ (pos))), (2, .int (iZ (P9))), (1, .int (iZ (pp))), (0, .ref h0)] → W p l e R s m args below meth c H locs cells slots Q (F0 m 75 ls [])) :
    ∀ (n9 : Nat) (q : Int) (μ : va_M) (H : Heap) (locs : List Loc) (ls : Array Slot), (0 ≤ q ∧ q ≤ μ0 0 39 + 1) → (fr (colF pos.toNat) μ0 μ) → (∀ x : Nat, (x : Int) < q → μ (4416 + x) pos.toNat = 1000000) → (2000 - q).toNat < n9 → va_P (dC, dI) vwCl (fw (mE cI cZ cII cIII h0) h0 6325 μ) H → va_S (fA h0 6325 s.heap.size) s.heap H locs → lv_has ls 8 [(4, .int (iZ (q))), (3, .int (iZ (pos))), (2, .int (iZ (P9))), (1, .int (iZ (pp))), (0, .ref h0)] → W p l e R s m args below meth c H locs cells slots Q (F0 m 49 ls []) := by
  intro n9
  induction n9 with
  | zero => intro q μ H locs ls hq hf hz hm9 hP hS hl; exact absurd hm9 (Nat.not_lt_zero _)
  | succ n9 ih =>
    intro q μ H locs ls hq hf hz hm9 hP hS hl
    have e39 : μ 0 39 = μ0 0 39 := hf 0 39 (colF_n (by omega))
    have hb1 := hO.1
    have hb2 := hO.2.1
    refine lv_iload hx hb dX10_cuts_49 (lv_at hl 0 rfl) ?_
    refine lv_aload_n hx hb dX10_cuts_51 rfl (lv_at hl 4 rfl) ?_
    refine fz_get (D := (dC, dI)) (ci := 10) (v := .int (iZ (μ 0 39))) (C := RX10) (T := TX10) (N := 53) hx hb hts inG10 hown hK hP (k := 0) (by decide) (F := mF h0) mE_obj rfl 39 (by decide) (hts _ k1205) (fun _ h9 => h9) rfl dX10_cuts_52 ?_
    refine fz_icmp_gt (tgt := 75) (by constructor <;> omega) (by constructor <;> omega) hx hb dX10_cuts_55 (by decide) (fun c55_ => ?_) (fun c55_ => ?_)
    · exact hexit75 (q) μ H locs ls (by exact hf) (by
                    intro x hx
                    exact hz x (by omega)) hP hS (lv_sub hl [1, 2, 3, 4] rfl)
    · refine lv_aload_n hx hb dX10_cuts_58 rfl (lv_at hl 4 rfl) ?_
      refine fz_get (D := (dC, dI)) (ci := 10) (v := .ref (h0 + 4415)) (C := RX10) (T := TX10) (N := 53) hx hb hts inG10 hown hK hP (k := 0) (by decide) (F := mF h0) mE_obj rfl 43 (by decide) (hts _ k1209) (fun _ h9 => h9) rfl dX10_cuts_59 ?_
      refine lv_iload hx hb dX10_cuts_62 (lv_at hl 0 rfl) ?_
      refine fz_ald (k := 4415) (n := 1900) (k2 := (4416 + (q).toNat)) hx hb hK hP 2 rfl (by decide) mE_can rfl ⟨by omega, by omega⟩ (by decide) (if_pos (by omega)) dX10_cuts_64 ?_
      refine lv_iload_n hx hb dX10_cuts_65 rfl (lv_at hl 1 rfl) ?_
      refine lv_ldc (v := iZ 1000000) hx hb hown (hts _ k1551) dX10_cuts_66 ?_
      refine fz_st (k := (4416 + (q).toNat)) (n := 62) (i := pos) (z := 1000000) hx hb hK hP fA_in hS 0 (by omega) (mE_canR (by omega)) rfl ⟨by omega, by omega⟩ (by decide) dX10_cuts_68 (fun H locs hP hS => ?_)
      obtain ⟨μ1, eμ1⟩ : ∃ x : va_M, x = uz μ (4416 + (q).toNat) (pos).toNat (1000000) := ⟨_, rfl⟩
      rw [← eμ1] at hP
      refine lv_iinc (v := iZ (q + 1)) (lv' := [(4, .int (iZ (q + 1))), (3, .int (iZ (pos))), (2, .int (iZ (P9))), (1, .int (iZ (pp))), (0, .ref h0)]) hx hb dX10_cuts_69 hl (k := 0) rfl (iZ_add _ _) (by decide) rfl (fun ls hl => ?_)
      refine lv_goto (tgt := 49) hx hb dX10_cuts_72 (by decide) ?_
      exact ih (q + 1) μ1 H locs ls (by omega) (by
                    subst eμ1
                    exact fr_uz hf ⟨by unfold CF; omega, rfl⟩) (by
                    subst eμ1
                    intro x hx
                    by_cases h9 : x = q.toNat
                    · subst h9; rw [uz_s]
                    · rw [uz_n (by omega)]; exact hz x (by omega)) (by omega) hP hS (lv_sub hl [0, 1, 2, 3, 4] rfl)
set_option maxHeartbeats 4000000 in
set_option maxRecDepth 100000 in
theorem LX10_cuts_108b {p : Program} {l : Launch} {e : Env} {R : Room} {s : State} {m : MethodId} {args : Array Value} {below : List Frame} {meth : Method} {c : Code} {cells slots : Nat} {Q : State → Prop} {dC : Nat → ClassId} {dI : Nat → Nat → Nat} {h0 : Nat} {cI cZ cII cIII : ClassId} (hx : p.tables.exec = Jvm.exec) (hb : c.code = cX10_cuts) (hml : c.maxLocals = 8) (hown : s.vm.findClass RX10 = some m.cls) (hts : ∀ w ∈ wsG, w.before args s = true) (hK : va_K (dC, dI) vwCl (mT cI cZ cII cIII) s) (hRf : 5 ≤ R.frames) (hRl : 120 ≤ R.locals) (hRc : cells ≤ R.cells) (hRs : slots ≤ R.slots) (μ0 : va_M) (pp : Int) (P9 : Int) (pos : Int) (M0 : Nat) (hO : stOK μ0) (hpp : 0 ≤ pp ∧ pp < 8) (hpos : 0 ≤ pos ∧ pos ≤ P9) (hP9 : P9 ≤ 60) (hsr : ∀ j : Nat, j < 201 → inR (μ0 3 j)) (htk : ∀ k : Nat, (k : Int) < P9 → 0 ≤ μ0 (7 + pp.toNat) k ∧ μ0 (7 + pp.toNat) k < 201) (hnx : pos < P9 → cOC μ0 (pos.toNat + 1)) (hexit246 : ∀ (mv : Int) (q : Int) (μ : va_M) (H : Heap) (locs : List Loc) (ls : Array Slot), (wayK μ0 μ pos.toNat (tkc μ0 P9 pp.toNat pos.toNat)) → ((mv = 0 ∧ mD μ pos.toNat (μ0 0 39).toNat ≤ M0 ∧ ∀ x : Nat, (x : Int) < μ0 0 39 → μ (4416 + x) pos.toNat = cF μ x pos.toNat (tkc μ0 P9 pp.toNat pos.toNat x)) ∨ (mv = 1 ∧ mD μ pos.toNat (μ0 0 39).toNat < M0)) → (μ (4416 + (μ0 0 39).toNat) pos.toNat = P9 - pos) → va_P (dC, dI) vwCl (fw (mE cI cZ cII cIII h0) h0 6325 μ) H → va_S (fA h0 6325 s.heap.size) s.heap H locs → lv_has ls 8 [(4, .int (iZ (mv))), (3, .int (iZ (pos))), (2, .int (iZ (P9))), (1, .int (iZ (pp))), (0, .ref h0)] → W p l e R s m args below meth c H locs cells slots Q (F0 m 246 ls [])) :
    ∀ (n9 : Nat) (mv : Int) (q : Int) (μ : va_M) (H : Heap) (locs : List Loc) (ls : Array Slot), (-1 ≤ q ∧ q < μ0 0 39) → (wayK μ0 μ pos.toNat (tkc μ0 P9 pp.toNat pos.toNat)) → (mD μ pos.toNat (μ0 0 39).toNat ≤ M0) → ((mv = 0 ∧ ∀ x : Nat, q < (x : Int) → (x : Int) < μ0 0 39 → μ (4416 + x) pos.toNat = cF μ x pos.toNat (tkc μ0 P9 pp.toNat pos.toNat x)) ∨ (mv = 1 ∧ mD μ pos.toNat (μ0 0 39).toNat < M0)) → (μ (4416 + (μ0 0 39).toNat) pos.toNat = P9 - pos) → (q + 2).toNat < n9 → va_P (dC, dI) vwCl (fw (mE cI cZ cII cIII h0) h0 6325 μ) H → va_S (fA h0 6325 s.heap.size) s.heap H locs → lv_has ls 8 [(5, .int (iZ (q))), (4, .int (iZ (mv))), (3, .int (iZ (pos))), (2, .int (iZ (P9))), (1, .int (iZ (pp))), (0, .ref h0)] → W p l e R s m args below meth c H locs cells slots Q (F0 m 108 ls []) := by
  intro n9
  induction n9 with
  | zero => intro mv q μ H locs ls hq hW hM hd hE hm9 hP hS hl; exact absurd hm9 (Nat.not_lt_zero _)
  | succ n9 ih =>
    intro mv q μ H locs ls hq hW hM hd hE hm9 hP hS hl
    have hO1 := wayK_O hW hO
    have hf := hW.1
    have e39 : μ 0 39 = μ0 0 39 := hf 0 39 (colF_n (by omega))
    have e7 : ∀ k, μ (7 + pp.toNat) k = μ0 (7 + pp.toNat) k := fun k => hf _ _ (colF_n (by omega))
    have e3 : ∀ k, μ 3 k = μ0 3 k := fun k => hf _ _ (colF_n (by omega))
    have hb1 := hO.1
    have hb2 := hO.2.1
    have hnx1 : pos < P9 → cOC μ (pos.toNat + 1) := fun h => cOC_fr (hnx h) hf (colF_n (by omega)) (fun x => colF_n (by omega))
    have hmv : mv = 0 ∨ mv = 1 := by rcases hd with h | h <;> omega
    have hc1 := hW.2.2
    have hck : cOK μ pos.toNat := fun x hx => by have := hc1 x hx; omega
    refine lv_iload hx hb dX10_cuts_108 (lv_at hl 0 rfl) ?_
    refine fz_if_lt (tgt := 246) (by constructor <;> omega) hx hb dX10_cuts_110 (by decide) (fun c110_ => ?_) (fun c110_ => ?_)
    · exact hexit246 (mv) (q) μ H locs ls (by exact hW) (by
                    rcases hd with ⟨h1, h2⟩ | h1
                    · exact Or.inl ⟨h1, hM, fun x hx => h2 x (by omega) hx⟩
                    · exact Or.inr h1) (by exact hE) hP hS (lv_sub hl [1, 2, 3, 4, 5] rfl)
    · have hTR : 0 ≤ tkc μ0 P9 pp.toNat pos.toNat q.toNat ∧ tkc μ0 P9 pp.toNat pos.toNat q.toNat ≤ 1000000 := tkc_rng (by omega) (by omega) (fun h => hnx (by omega))
      have hTe := tkc_e (P := P9) (x := q.toNat) hf (show pp.toNat < 8 by omega)
      rw [hTe] at hTR
      have eq1 : (q + 1).toNat = q.toNat + 1 := by omega
      have ep1 : (pos + 1).toNat = pos.toNat + 1 := by omega
      refine lv_iload_n hx hb dX10_cuts_113 rfl (lv_at hl 2 rfl) ?_
      refine lv_iload_n hx hb dX10_cuts_114 rfl (lv_at hl 3 rfl) ?_
      refine fz_icmp_ne (tgt := 123) (by constructor <;> omega) (by constructor <;> omega) hx hb dX10_cuts_115 (by decide) (fun c115_ => ?_) (fun c115_ => ?_)
      · have n1 := hnx1 (by omega) q.toNat (by omega)
        have n2 := hnx1 (by omega) (q.toNat + 1) (by omega)
        refine lv_ldc (v := iZ 1000000) hx hb hown (hts _ k1551) dX10_cuts_123 ?_
        refine lv_iconst (v := iZ 1) hx hb dX10_cuts_125 rfl ?_
        refine lv_aload_n hx hb dX10_cuts_126 rfl (lv_at hl 5 rfl) ?_
        refine fz_get (D := (dC, dI)) (ci := 10) (v := .ref (h0 + 4415)) (C := RX10) (T := TX10) (N := 53) hx hb hts inG10 hown hK hP (k := 0) (by decide) (F := mF h0) mE_obj rfl 43 (by decide) (hts _ k1209) (fun _ h9 => h9) rfl dX10_cuts_127 ?_
        refine lv_iload hx hb dX10_cuts_130 (lv_at hl 0 rfl) ?_
        refine fz_ald (k := 4415) (n := 1900) (k2 := (4416 + (q).toNat)) hx hb hK hP 2 rfl (by decide) mE_can rfl ⟨by omega, by omega⟩ (by decide) (if_pos (by omega)) dX10_cuts_132 ?_
        refine lv_iload_n hx hb dX10_cuts_133 rfl (lv_at hl 2 rfl) ?_
        refine lv_iconst (v := iZ 1) hx hb dX10_cuts_134 rfl ?_
        refine lv_iadd hx hb dX10_cuts_135 ?_
        refine lv_topi (fun x9 ex9 => ?_)
        obtain rfl : x9 = iZ (pos + 1) := ex9.trans (iZ_add _ _)
        refine fz_ld (k := (4416 + (q).toNat)) (n := 62) hx hb hK hP 0 (by omega) (mE_canR (by omega)) rfl ⟨by omega, by omega⟩ (by decide) dX10_cuts_136 ?_
        rw [show μ (4416 + (q).toNat) (pos + 1).toNat = μ (4416 + q.toNat) (pos.toNat + 1) from (by rw [ep1])]
        refine lv_iadd hx hb dX10_cuts_137 ?_
        refine lv_topi (fun x9 ex9 => ?_)
        obtain rfl : x9 = iZ (1 + (μ (4416 + q.toNat) (pos.toNat + 1))) := ex9.trans (iZ_add _ _)
        refine va_calli (va_runS (As := [.int (iZ (1000000)), .int (iZ (1 + (μ (4416 + q.toNat) (pos.toNat + 1))))]) (rest := []) ⟨hx, hb, hml, hown, hts⟩ (m_less l dC dI cI cZ cII cIII h0 H.size μ (1000000) (1 + (μ (4416 + q.toNat) (pos.toNat + 1))) (by constructor <;> omega) (by constructor <;> omega)) (cwS 2 hts (gS_G k1532 k1533 k13 k1534) rfl rfl rfl (by decide +kernel) ⟨by show 1 + 1 ≤ _; omega, by show 8 + (2 + 11) + (14) ≤ _; omega⟩) ⟨fun a U g mk q => by obtain ⟨q0, q1, qP, qK⟩ := q; exact ⟨q0, q1, qP, va_K.moved (u := U) (U := U.calling g mk a) (Vm.Alike.refl U.vm) qK⟩, fun U hU hW => ⟨rfl, by rw [hU], by rw [hU]; exact hP, va_K.moved hW.alike hK⟩⟩ rfl rfl hl.1 rfl (lv_room (Nat.le_of_ble_eq_true rfl)) dX10_cuts_138 ⟨hRc, hRs⟩) hS (fun q _ h => fA_le hS.1 q h) (fA_le hS.1) (fun r9 u9 t9 H1 locs ht9 hvm9 hw9 hB9 hz9 hk9 hS => ?_)
        obtain ⟨μ2, rl⟩ := u9
        obtain ⟨hP, -⟩ := hB9
        rw [ht9] at hP
        generalize H1 = H at hP hS ⊢
        obtain ⟨e9, hw9⟩ := hw9
        have e9 : r9 = iZ rl := e9
        subst e9
        simp only at hP hw9
        have hμ2 := hw9; clear hw9
        rw [hμ2.1] at hP; have hμ2 := hμ2.2
        have hl1 : rl = min 1000000 (1 + μ (4416 + q.toNat) (pos.toNat + 1)) := hμ2
        refine lv_istore (lv' := [(6, .int (iZ (rl))), (5, .int (iZ (q))), (4, .int (iZ (mv))), (3, .int (iZ (pos))), (2, .int (iZ (P9))), (1, .int (iZ (pp))), (0, .ref h0)]) hx hb dX10_cuts_141 hl (by decide) rfl (fun ls hl => ?_)
        refine lv_iload_n hx hb dX10_cuts_143 rfl (lv_at hl 3 rfl) ?_
        refine lv_iload_n hx hb dX10_cuts_144 rfl (lv_at hl 4 rfl) ?_
        refine fz_icmp_ge (tgt := 194) (by constructor <;> omega) (by constructor <;> omega) hx hb dX10_cuts_145 (by decide) (fun h9 => (by omega)) (fun c145_ => ?_)
        refine lv_aload_n hx hb dX10_cuts_148 rfl (lv_at hl 6 rfl) ?_
        refine lv_iload hx hb dX10_cuts_149 (lv_at hl 1 rfl) ?_
        refine va_calli (va_runV (As := [.int (iZ (q))]) (rest := []) ⟨hx, hb, hml, hown, hts⟩ (m_isLeaf l dC dI cI cZ cII cIII h0 H.size μ (q) (by first | assumption | omega | exact ⟨by omega, by omega⟩) (by omega)) (cwV 1 hts (gV_G k1512 k1514 ks_yX10_isLeaf k13 k1515) rfl rfl rfl (by decide +kernel) ⟨by show 1 + 1 ≤ _; omega, by show 8 + (2 + 11) + (14) ≤ _; omega⟩) ⟨fun a U g mk q => by obtain ⟨q0, q1, qP, qK⟩ := q; exact ⟨q0, q1, qP, va_K.moved (u := U) (U := U.calling g mk a) (Vm.Alike.refl U.vm) qK⟩, va_recv hK hP (ci := 10) (q0 := 0) rfl ((fw_get (by decide)).trans (by rw [mE_obj]; rfl)), fun U hU hW => ⟨rfl, by rw [hU], by rw [hU]; exact hP, va_K.moved hW.alike hK⟩⟩ rfl rfl hl.1 rfl (lv_room (Nat.le_of_ble_eq_true rfl)) dX10_cuts_151 ⟨hRc, hRs⟩) hS (fun q _ h => fA_le hS.1 q h) (fA_le hS.1) (fun r9 u9 t9 H1 locs ht9 hvm9 hw9 hB9 hz9 hk9 hS => ?_)
        obtain ⟨μ3, r4⟩ := u9
        obtain ⟨hP, -⟩ := hB9
        rw [ht9] at hP
        generalize H1 = H at hP hS ⊢
        obtain ⟨e9, hw9⟩ := hw9
        have e9 : r9 = iZ r4 := e9
        subst e9
        simp only at hP hw9
        have hμ3 := hw9; clear hw9
        rw [hμ3.1] at hP; have hμ3 := hμ3.2
        have h1 := hμ3
        refine fz_if_eq (tgt := 194) (by constructor <;> omega) hx hb dX10_cuts_154 (by decide) (fun c154_ => ?_) (fun c154_ => ?_)
        · have hnl := if_not h1 (by omega)
          refine lv_aload_n hx hb dX10_cuts_194 rfl (lv_at hl 6 rfl) ?_
          refine lv_iload hx hb dX10_cuts_195 (lv_at hl 1 rfl) ?_
          refine lv_iload_n hx hb dX10_cuts_197 rfl (lv_at hl 3 rfl) ?_
          refine lv_iload hx hb dX10_cuts_198 (lv_at hl 0 rfl) ?_
          refine va_calli (va_runV (As := [.int (iZ (q)), .int (iZ (pos)), .int (iZ (rl))]) (rest := []) ⟨hx, hb, hml, hown, hts⟩ (m_cutsFrom l dC dI cI cZ cII cIII h0 H.size μ (q) (pos) (rl) (by first | assumption | omega | exact ⟨by omega, by omega⟩) (by omega) (by first | assumption | omega | exact ⟨by omega, by omega⟩) (by exact hck)) (cwV 3 hts (gV_G k1743 k1745 ks_yX10_cutsFrom k13 k1746) rfl rfl rfl (by decide +kernel) ⟨by show 2 + 1 ≤ _; omega, by show 8 + (4 + 11) + (35) ≤ _; omega⟩) ⟨fun a U g mk q => by obtain ⟨q0, q1, qP, qK⟩ := q; exact ⟨q0, q1, qP, va_K.moved (u := U) (U := U.calling g mk a) (Vm.Alike.refl U.vm) qK⟩, va_recv hK hP (ci := 10) (q0 := 0) rfl ((fw_get (by decide)).trans (by rw [mE_obj]; rfl)), fun U hU hW => ⟨rfl, by rw [hU], by rw [hU]; exact hP, va_K.moved hW.alike hK⟩⟩ rfl rfl hl.1 rfl (lv_room (Nat.le_of_ble_eq_true rfl)) dX10_cuts_200 ⟨hRc, hRs⟩) hS (fun q _ h => fA_le hS.1 q h) (fA_le hS.1) (fun r9 u9 t9 H1 locs ht9 hvm9 hw9 hB9 hz9 hk9 hS => ?_)
          obtain ⟨μ5, rn⟩ := u9
          obtain ⟨hP, -⟩ := hB9
          rw [ht9] at hP
          generalize H1 = H at hP hS ⊢
          obtain ⟨e9, hw9⟩ := hw9
          have e9 : r9 = iZ rn := e9
          subst e9
          simp only at hP hw9
          have hμ5 := hw9; clear hw9
          rw [hμ5.1] at hP; have hμ5 := hμ5.2
          have hn : rn = cF μ q.toNat pos.toNat (tkc μ P9 pp.toNat pos.toNat q.toNat) := by
            have h9 := hμ5
            first
              | (rw [show tkc μ P9 pp.toNat pos.toNat q.toNat = rm from by
                  unfold tkc
                  rw [if_pos ⟨by omega, hlf, by omega⟩]
                  omega]
                 exact h9)
              | (rw [show tkc μ P9 pp.toNat pos.toNat q.toNat = rl from by
                  unfold tkc
                  rw [if_neg (fun hh => by
                    obtain ⟨a1, a2, a3⟩ := hh
                    first | omega | exact hnl a2), if_neg (by omega)]
                  omega]
                 exact h9)
              | (rw [show tkc μ P9 pp.toNat pos.toNat q.toNat = 1000000 from by
                  unfold tkc
                  rw [if_neg (fun hh => by have := hh.1; omega), if_pos (by omega)]]
                 exact h9)
          rw [← hTe] at hn hTR
          have hrr := cF_rng (q := q.toNat) hO1 (by omega) hc1 hTR
          have hcq := hc1 q.toNat (by omega)
          obtain ⟨hU1, hU2, hU3⟩ := wayK_up (q := q.toNat) hW hO (by omega) hTR
          rw [← hn] at hU1 hU2 hU3
          rw [e39] at hU2 hU3
          refine lv_istore (lv' := [(7, .int (iZ (rn))), (6, .int (iZ (rl))), (5, .int (iZ (q))), (4, .int (iZ (mv))), (3, .int (iZ (pos))), (2, .int (iZ (P9))), (1, .int (iZ (pp))), (0, .ref h0)]) hx hb dX10_cuts_203 hl (by decide) rfl (fun ls hl => ?_)
          refine lv_iload hx hb dX10_cuts_205 (lv_at hl 3 rfl) ?_
          refine lv_iload hx hb dX10_cuts_207 (lv_at hl 0 rfl) ?_
          refine lv_aload_n hx hb dX10_cuts_209 rfl (lv_at hl 7 rfl) ?_
          refine fz_get (D := (dC, dI)) (ci := 10) (v := .ref (h0 + 4415)) (C := RX10) (T := TX10) (N := 53) hx hb hts inG10 hown hK hP (k := 0) (by decide) (F := mF h0) mE_obj rfl 43 (by decide) (hts _ k1209) (fun _ h9 => h9) rfl dX10_cuts_210 ?_
          refine lv_iload hx hb dX10_cuts_213 (lv_at hl 2 rfl) ?_
          refine fz_ald (k := 4415) (n := 1900) (k2 := (4416 + (q).toNat)) hx hb hK hP 2 rfl (by decide) mE_can rfl ⟨by omega, by omega⟩ (by decide) (if_pos (by omega)) dX10_cuts_215 ?_
          refine lv_iload_n hx hb dX10_cuts_216 rfl (lv_at hl 4 rfl) ?_
          refine fz_ld (k := (4416 + (q).toNat)) (n := 62) hx hb hK hP 0 (by omega) (mE_canR (by omega)) rfl ⟨by omega, by omega⟩ (by decide) dX10_cuts_217 ?_
          refine fz_icmp_eq (tgt := 225) (by constructor <;> omega) (by constructor <;> omega) hx hb dX10_cuts_218 (by decide) (fun c218_ => ?_) (fun c218_ => ?_)
          · refine lv_iconst (v := iZ 0) hx hb dX10_cuts_225 rfl ?_
            refine lv_ior hx hb dX10_cuts_226 ?_
            refine lv_topi (fun x9 ex9 => ?_)
            obtain ⟨z6, rfl, hz6⟩ := iZ_ex x9
            have ez6 := ex9; clear ex9
            refine lv_istore (lv' := [(4, .int (iZ (z6))), (7, .int (iZ (rn))), (6, .int (iZ (rl))), (5, .int (iZ (q))), (3, .int (iZ (pos))), (2, .int (iZ (P9))), (1, .int (iZ (pp))), (0, .ref h0)]) hx hb dX10_cuts_227 hl (by decide) rfl (fun ls hl => ?_)
            refine lv_aload_n hx hb dX10_cuts_229 rfl (lv_at hl 7 rfl) ?_
            refine fz_get (D := (dC, dI)) (ci := 10) (v := .ref (h0 + 4415)) (C := RX10) (T := TX10) (N := 53) hx hb hts inG10 hown hK hP (k := 0) (by decide) (F := mF h0) mE_obj rfl 43 (by decide) (hts _ k1209) (fun _ h9 => h9) rfl dX10_cuts_230 ?_
            refine lv_iload hx hb dX10_cuts_233 (lv_at hl 3 rfl) ?_
            refine fz_ald (k := 4415) (n := 1900) (k2 := (4416 + (q).toNat)) hx hb hK hP 2 rfl (by decide) mE_can rfl ⟨by omega, by omega⟩ (by decide) (if_pos (by omega)) dX10_cuts_235 ?_
            refine lv_iload_n hx hb dX10_cuts_236 rfl (lv_at hl 4 rfl) ?_
            refine lv_iload hx hb dX10_cuts_237 (lv_at hl 1 rfl) ?_
            have hz1 := ior_b hz6 ez6 hmv (by omega)
            refine fz_st (k := (4416 + (q).toNat)) (n := 62) (i := pos) (z := rn) hx hb hK hP fA_in hS 0 (by omega) (mE_canR (by omega)) rfl ⟨by omega, by omega⟩ (by decide) dX10_cuts_239 (fun H locs hP hS => ?_)
            obtain ⟨μ7, eμ7⟩ : ∃ x : va_M, x = uz μ (4416 + (q).toNat) (pos).toNat (rn) := ⟨_, rfl⟩
            rw [← eμ7] at hP
            refine lv_iinc (v := iZ (q - 1)) (lv' := [(5, .int (iZ (q - 1))), (4, .int (iZ (z6))), (7, .int (iZ (rn))), (6, .int (iZ (rl))), (3, .int (iZ (pos))), (2, .int (iZ (P9))), (1, .int (iZ (pp))), (0, .ref h0)]) hx hb dX10_cuts_240 hl (k := 3) rfl (iZ_add _ (-1)) (by decide) rfl (fun ls hl => ?_)
            refine lv_goto (tgt := 108) hx hb dX10_cuts_243 (by decide) ?_
            exact ih (z6) (q - 1) μ7 H locs ls (by omega) (by
                                subst eμ7
                                exact hU1) (by
                                subst eμ7
                                omega) (by
                                subst eμ7
                                rcases hz1 with ⟨z1, z2, z3⟩ | ⟨z1, z2⟩
                                · left
                                  refine ⟨z1, ?_⟩
                                  have hs : rn = μ (4416 + q.toNat) pos.toNat := by omega
                                  rw [uz_id hs]
                                  intro x h1 h2
                                  by_cases h9 : x = q.toNat
                                  · subst h9; rw [← hs]; exact hn
                                  · rcases hd with ⟨_, hd⟩ | ⟨hd, _⟩
                                    · exact hd x (by omega) h2
                                    · omega
                                · right
                                  refine ⟨z1, ?_⟩
                                  rcases hd with ⟨hd0, hd⟩ | ⟨_, hd⟩
                                  · have h9 := hU3 (by omega)
                                    omega
                                  · omega) (by
                                subst eμ7
                                rw [uz_n (by omega)]; exact hE) (by omega) hP hS (lv_sub hl [0, 1, 4, 5, 6, 7] rfl)
          · refine lv_iconst (v := iZ 1) hx hb dX10_cuts_221 rfl ?_
            refine lv_goto (tgt := 226) hx hb dX10_cuts_222 (by decide) ?_
            refine lv_ior hx hb dX10_cuts_226 ?_
            refine lv_topi (fun x9 ex9 => ?_)
            obtain ⟨z8, rfl, hz8⟩ := iZ_ex x9
            have ez8 := ex9; clear ex9
            refine lv_istore (lv' := [(4, .int (iZ (z8))), (7, .int (iZ (rn))), (6, .int (iZ (rl))), (5, .int (iZ (q))), (3, .int (iZ (pos))), (2, .int (iZ (P9))), (1, .int (iZ (pp))), (0, .ref h0)]) hx hb dX10_cuts_227 hl (by decide) rfl (fun ls hl => ?_)
            refine lv_aload_n hx hb dX10_cuts_229 rfl (lv_at hl 7 rfl) ?_
            refine fz_get (D := (dC, dI)) (ci := 10) (v := .ref (h0 + 4415)) (C := RX10) (T := TX10) (N := 53) hx hb hts inG10 hown hK hP (k := 0) (by decide) (F := mF h0) mE_obj rfl 43 (by decide) (hts _ k1209) (fun _ h9 => h9) rfl dX10_cuts_230 ?_
            refine lv_iload hx hb dX10_cuts_233 (lv_at hl 3 rfl) ?_
            refine fz_ald (k := 4415) (n := 1900) (k2 := (4416 + (q).toNat)) hx hb hK hP 2 rfl (by decide) mE_can rfl ⟨by omega, by omega⟩ (by decide) (if_pos (by omega)) dX10_cuts_235 ?_
            refine lv_iload_n hx hb dX10_cuts_236 rfl (lv_at hl 4 rfl) ?_
            refine lv_iload hx hb dX10_cuts_237 (lv_at hl 1 rfl) ?_
            have hz1 := ior_b hz8 ez8 hmv (by omega)
            refine fz_st (k := (4416 + (q).toNat)) (n := 62) (i := pos) (z := rn) hx hb hK hP fA_in hS 0 (by omega) (mE_canR (by omega)) rfl ⟨by omega, by omega⟩ (by decide) dX10_cuts_239 (fun H locs hP hS => ?_)
            obtain ⟨μ10, eμ10⟩ : ∃ x : va_M, x = uz μ (4416 + (q).toNat) (pos).toNat (rn) := ⟨_, rfl⟩
            rw [← eμ10] at hP
            refine lv_iinc (v := iZ (q - 1)) (lv' := [(5, .int (iZ (q - 1))), (4, .int (iZ (z8))), (7, .int (iZ (rn))), (6, .int (iZ (rl))), (3, .int (iZ (pos))), (2, .int (iZ (P9))), (1, .int (iZ (pp))), (0, .ref h0)]) hx hb dX10_cuts_240 hl (k := 3) rfl (iZ_add _ (-1)) (by decide) rfl (fun ls hl => ?_)
            refine lv_goto (tgt := 108) hx hb dX10_cuts_243 (by decide) ?_
            exact ih (z8) (q - 1) μ10 H locs ls (by omega) (by
                                subst eμ10
                                exact hU1) (by
                                subst eμ10
                                omega) (by
                                subst eμ10
                                rcases hz1 with ⟨z1, z2, z3⟩ | ⟨z1, z2⟩
                                · left
                                  refine ⟨z1, ?_⟩
                                  have hs : rn = μ (4416 + q.toNat) pos.toNat := by omega
                                  rw [uz_id hs]
                                  intro x h1 h2
                                  by_cases h9 : x = q.toNat
                                  · subst h9; rw [← hs]; exact hn
                                  · rcases hd with ⟨_, hd⟩ | ⟨hd, _⟩
                                    · exact hd x (by omega) h2
                                    · omega
                                · right
                                  refine ⟨z1, ?_⟩
                                  rcases hd with ⟨hd0, hd⟩ | ⟨_, hd⟩
                                  · have h9 := hU3 (by omega)
                                    omega
                                  · omega) (by
                                subst eμ10
                                rw [uz_n (by omega)]; exact hE) (by omega) hP hS (lv_sub hl [0, 1, 4, 5, 6, 7] rfl)
        · have hlf := if_get h1 (by omega)
          have htk9 := htk pos.toNat (by omega)
          have e7p := e7 pos.toNat
          refine lv_aload_n hx hb dX10_cuts_157 rfl (lv_at hl 6 rfl) ?_
          refine lv_iload hx hb dX10_cuts_158 (lv_at hl 1 rfl) ?_
          refine lv_aload_n hx hb dX10_cuts_160 rfl (lv_at hl 6 rfl) ?_
          refine fz_get (D := (dC, dI)) (ci := 10) (v := .ref (h0 + 6)) (C := RX10) (T := TX10) (N := 53) hx hb hts inG10 hown hK hP (k := 0) (by decide) (F := mF h0) mE_obj rfl 14 (by decide) (hts _ k1180) (fun _ h9 => h9) rfl dX10_cuts_161 ?_
          refine lv_iload_n hx hb dX10_cuts_164 rfl (lv_at hl 5 rfl) ?_
          refine fz_ald (k := 6) (n := 8) (k2 := (7 + (pp).toNat)) hx hb hK hP 2 rfl (by decide) mE_page rfl ⟨by omega, by omega⟩ (by decide) (if_pos (by omega)) dX10_cuts_165 ?_
          refine lv_iload_n hx hb dX10_cuts_166 rfl (lv_at hl 3 rfl) ?_
          refine fz_ld (k := (7 + (pp).toNat)) (n := 60) hx hb hK hP 0 (by omega) (mE_pageR (by omega)) rfl ⟨by omega, by omega⟩ (by decide) dX10_cuts_167 ?_
          refine va_calli (va_runV (As := [.int (iZ (q)), .int (iZ (μ (7 + (pp).toNat) (pos).toNat))]) (rest := []) ⟨hx, hb, hml, hown, hts⟩ (m_takes l dC dI cI cZ cII cIII h0 H.size μ (q) (μ (7 + (pp).toNat) (pos).toNat) (by first | assumption | omega | exact ⟨by omega, by omega⟩) (by omega) (by omega) (by intro j hj; rw [e3]; exact hsr j hj)) (cwV 2 hts (gV_G k1516 k1518 ks_yX10_takes k13 k1519) rfl rfl rfl (by decide +kernel) ⟨by show 1 + 1 ≤ _; omega, by show 8 + (5 + 11) + (14) ≤ _; omega⟩) ⟨fun a U g mk q => by obtain ⟨q0, q1, qP, qK⟩ := q; exact ⟨q0, q1, qP, va_K.moved (u := U) (U := U.calling g mk a) (Vm.Alike.refl U.vm) qK⟩, va_recv hK hP (ci := 10) (q0 := 0) rfl ((fw_get (by decide)).trans (by rw [mE_obj]; rfl)), fun U hU hW => ⟨rfl, by rw [hU], by rw [hU]; exact hP, va_K.moved hW.alike hK⟩⟩ rfl rfl hl.1 rfl (lv_room (Nat.le_of_ble_eq_true rfl)) dX10_cuts_168 ⟨hRc, hRs⟩) hS (fun q _ h => fA_le hS.1 q h) (fA_le hS.1) (fun r9 u9 t9 H1 locs ht9 hvm9 hw9 hB9 hz9 hk9 hS => ?_)
          obtain ⟨μ11, r12⟩ := u9
          obtain ⟨hP, -⟩ := hB9
          rw [ht9] at hP
          generalize H1 = H at hP hS ⊢
          obtain ⟨e9, hw9⟩ := hw9
          have e9 : r9 = iZ r12 := e9
          subst e9
          simp only at hP hw9
          have hμ11 := hw9; clear hw9
          rw [hμ11.1] at hP; have hμ11 := hμ11.2
          have h3 := tkD_of hμ11
          have h3b : r12 = 0 ∨ r12 = 1 := by rcases hμ11 with h | h <;> omega
          refine fz_if_eq (tgt := 194) (by constructor <;> omega) hx hb dX10_cuts_171 (by decide) (fun c171_ => ?_) (fun c171_ => ?_)
          · refine lv_aload_n hx hb dX10_cuts_194 rfl (lv_at hl 6 rfl) ?_
            refine lv_iload hx hb dX10_cuts_195 (lv_at hl 1 rfl) ?_
            refine lv_iload_n hx hb dX10_cuts_197 rfl (lv_at hl 3 rfl) ?_
            refine lv_iload hx hb dX10_cuts_198 (lv_at hl 0 rfl) ?_
            refine va_calli (va_runV (As := [.int (iZ (q)), .int (iZ (pos)), .int (iZ (rl))]) (rest := []) ⟨hx, hb, hml, hown, hts⟩ (m_cutsFrom l dC dI cI cZ cII cIII h0 H.size μ (q) (pos) (rl) (by first | assumption | omega | exact ⟨by omega, by omega⟩) (by omega) (by first | assumption | omega | exact ⟨by omega, by omega⟩) (by exact hck)) (cwV 3 hts (gV_G k1743 k1745 ks_yX10_cutsFrom k13 k1746) rfl rfl rfl (by decide +kernel) ⟨by show 2 + 1 ≤ _; omega, by show 8 + (4 + 11) + (35) ≤ _; omega⟩) ⟨fun a U g mk q => by obtain ⟨q0, q1, qP, qK⟩ := q; exact ⟨q0, q1, qP, va_K.moved (u := U) (U := U.calling g mk a) (Vm.Alike.refl U.vm) qK⟩, va_recv hK hP (ci := 10) (q0 := 0) rfl ((fw_get (by decide)).trans (by rw [mE_obj]; rfl)), fun U hU hW => ⟨rfl, by rw [hU], by rw [hU]; exact hP, va_K.moved hW.alike hK⟩⟩ rfl rfl hl.1 rfl (lv_room (Nat.le_of_ble_eq_true rfl)) dX10_cuts_200 ⟨hRc, hRs⟩) hS (fun q _ h => fA_le hS.1 q h) (fA_le hS.1) (fun r9 u9 t9 H1 locs ht9 hvm9 hw9 hB9 hz9 hk9 hS => ?_)
            obtain ⟨μ13, rn⟩ := u9
            obtain ⟨hP, -⟩ := hB9
            rw [ht9] at hP
            generalize H1 = H at hP hS ⊢
            obtain ⟨e9, hw9⟩ := hw9
            have e9 : r9 = iZ rn := e9
            subst e9
            simp only at hP hw9
            have hμ13 := hw9; clear hw9
            rw [hμ13.1] at hP; have hμ13 := hμ13.2
            have hn : rn = cF μ q.toNat pos.toNat (tkc μ P9 pp.toNat pos.toNat q.toNat) := by
              have h9 := hμ13
              first
                | (rw [show tkc μ P9 pp.toNat pos.toNat q.toNat = rm from by
                    unfold tkc
                    rw [if_pos ⟨by omega, hlf, by omega⟩]
                    omega]
                   exact h9)
                | (rw [show tkc μ P9 pp.toNat pos.toNat q.toNat = rl from by
                    unfold tkc
                    rw [if_neg (fun hh => by
                      obtain ⟨a1, a2, a3⟩ := hh
                      first | omega | exact hnl a2), if_neg (by omega)]
                    omega]
                   exact h9)
                | (rw [show tkc μ P9 pp.toNat pos.toNat q.toNat = 1000000 from by
                    unfold tkc
                    rw [if_neg (fun hh => by have := hh.1; omega), if_pos (by omega)]]
                   exact h9)
            rw [← hTe] at hn hTR
            have hrr := cF_rng (q := q.toNat) hO1 (by omega) hc1 hTR
            have hcq := hc1 q.toNat (by omega)
            obtain ⟨hU1, hU2, hU3⟩ := wayK_up (q := q.toNat) hW hO (by omega) hTR
            rw [← hn] at hU1 hU2 hU3
            rw [e39] at hU2 hU3
            refine lv_istore (lv' := [(7, .int (iZ (rn))), (6, .int (iZ (rl))), (5, .int (iZ (q))), (4, .int (iZ (mv))), (3, .int (iZ (pos))), (2, .int (iZ (P9))), (1, .int (iZ (pp))), (0, .ref h0)]) hx hb dX10_cuts_203 hl (by decide) rfl (fun ls hl => ?_)
            refine lv_iload hx hb dX10_cuts_205 (lv_at hl 3 rfl) ?_
            refine lv_iload hx hb dX10_cuts_207 (lv_at hl 0 rfl) ?_
            refine lv_aload_n hx hb dX10_cuts_209 rfl (lv_at hl 7 rfl) ?_
            refine fz_get (D := (dC, dI)) (ci := 10) (v := .ref (h0 + 4415)) (C := RX10) (T := TX10) (N := 53) hx hb hts inG10 hown hK hP (k := 0) (by decide) (F := mF h0) mE_obj rfl 43 (by decide) (hts _ k1209) (fun _ h9 => h9) rfl dX10_cuts_210 ?_
            refine lv_iload hx hb dX10_cuts_213 (lv_at hl 2 rfl) ?_
            refine fz_ald (k := 4415) (n := 1900) (k2 := (4416 + (q).toNat)) hx hb hK hP 2 rfl (by decide) mE_can rfl ⟨by omega, by omega⟩ (by decide) (if_pos (by omega)) dX10_cuts_215 ?_
            refine lv_iload_n hx hb dX10_cuts_216 rfl (lv_at hl 4 rfl) ?_
            refine fz_ld (k := (4416 + (q).toNat)) (n := 62) hx hb hK hP 0 (by omega) (mE_canR (by omega)) rfl ⟨by omega, by omega⟩ (by decide) dX10_cuts_217 ?_
            refine fz_icmp_eq (tgt := 225) (by constructor <;> omega) (by constructor <;> omega) hx hb dX10_cuts_218 (by decide) (fun c218_ => ?_) (fun c218_ => ?_)
            · refine lv_iconst (v := iZ 0) hx hb dX10_cuts_225 rfl ?_
              refine lv_ior hx hb dX10_cuts_226 ?_
              refine lv_topi (fun x9 ex9 => ?_)
              obtain ⟨z14, rfl, hz14⟩ := iZ_ex x9
              have ez14 := ex9; clear ex9
              refine lv_istore (lv' := [(4, .int (iZ (z14))), (7, .int (iZ (rn))), (6, .int (iZ (rl))), (5, .int (iZ (q))), (3, .int (iZ (pos))), (2, .int (iZ (P9))), (1, .int (iZ (pp))), (0, .ref h0)]) hx hb dX10_cuts_227 hl (by decide) rfl (fun ls hl => ?_)
              refine lv_aload_n hx hb dX10_cuts_229 rfl (lv_at hl 7 rfl) ?_
              refine fz_get (D := (dC, dI)) (ci := 10) (v := .ref (h0 + 4415)) (C := RX10) (T := TX10) (N := 53) hx hb hts inG10 hown hK hP (k := 0) (by decide) (F := mF h0) mE_obj rfl 43 (by decide) (hts _ k1209) (fun _ h9 => h9) rfl dX10_cuts_230 ?_
              refine lv_iload hx hb dX10_cuts_233 (lv_at hl 3 rfl) ?_
              refine fz_ald (k := 4415) (n := 1900) (k2 := (4416 + (q).toNat)) hx hb hK hP 2 rfl (by decide) mE_can rfl ⟨by omega, by omega⟩ (by decide) (if_pos (by omega)) dX10_cuts_235 ?_
              refine lv_iload_n hx hb dX10_cuts_236 rfl (lv_at hl 4 rfl) ?_
              refine lv_iload hx hb dX10_cuts_237 (lv_at hl 1 rfl) ?_
              have hz1 := ior_b hz14 ez14 hmv (by omega)
              refine fz_st (k := (4416 + (q).toNat)) (n := 62) (i := pos) (z := rn) hx hb hK hP fA_in hS 0 (by omega) (mE_canR (by omega)) rfl ⟨by omega, by omega⟩ (by decide) dX10_cuts_239 (fun H locs hP hS => ?_)
              obtain ⟨μ15, eμ15⟩ : ∃ x : va_M, x = uz μ (4416 + (q).toNat) (pos).toNat (rn) := ⟨_, rfl⟩
              rw [← eμ15] at hP
              refine lv_iinc (v := iZ (q - 1)) (lv' := [(5, .int (iZ (q - 1))), (4, .int (iZ (z14))), (7, .int (iZ (rn))), (6, .int (iZ (rl))), (3, .int (iZ (pos))), (2, .int (iZ (P9))), (1, .int (iZ (pp))), (0, .ref h0)]) hx hb dX10_cuts_240 hl (k := 3) rfl (iZ_add _ (-1)) (by decide) rfl (fun ls hl => ?_)
              refine lv_goto (tgt := 108) hx hb dX10_cuts_243 (by decide) ?_
              exact ih (z14) (q - 1) μ15 H locs ls (by omega) (by
                                    subst eμ15
                                    exact hU1) (by
                                    subst eμ15
                                    omega) (by
                                    subst eμ15
                                    rcases hz1 with ⟨z1, z2, z3⟩ | ⟨z1, z2⟩
                                    · left
                                      refine ⟨z1, ?_⟩
                                      have hs : rn = μ (4416 + q.toNat) pos.toNat := by omega
                                      rw [uz_id hs]
                                      intro x h1 h2
                                      by_cases h9 : x = q.toNat
                                      · subst h9; rw [← hs]; exact hn
                                      · rcases hd with ⟨_, hd⟩ | ⟨hd, _⟩
                                        · exact hd x (by omega) h2
                                        · omega
                                    · right
                                      refine ⟨z1, ?_⟩
                                      rcases hd with ⟨hd0, hd⟩ | ⟨_, hd⟩
                                      · have h9 := hU3 (by omega)
                                        omega
                                      · omega) (by
                                    subst eμ15
                                    rw [uz_n (by omega)]; exact hE) (by omega) hP hS (lv_sub hl [0, 1, 4, 5, 6, 7] rfl)
            · refine lv_iconst (v := iZ 1) hx hb dX10_cuts_221 rfl ?_
              refine lv_goto (tgt := 226) hx hb dX10_cuts_222 (by decide) ?_
              refine lv_ior hx hb dX10_cuts_226 ?_
              refine lv_topi (fun x9 ex9 => ?_)
              obtain ⟨z16, rfl, hz16⟩ := iZ_ex x9
              have ez16 := ex9; clear ex9
              refine lv_istore (lv' := [(4, .int (iZ (z16))), (7, .int (iZ (rn))), (6, .int (iZ (rl))), (5, .int (iZ (q))), (3, .int (iZ (pos))), (2, .int (iZ (P9))), (1, .int (iZ (pp))), (0, .ref h0)]) hx hb dX10_cuts_227 hl (by decide) rfl (fun ls hl => ?_)
              refine lv_aload_n hx hb dX10_cuts_229 rfl (lv_at hl 7 rfl) ?_
              refine fz_get (D := (dC, dI)) (ci := 10) (v := .ref (h0 + 4415)) (C := RX10) (T := TX10) (N := 53) hx hb hts inG10 hown hK hP (k := 0) (by decide) (F := mF h0) mE_obj rfl 43 (by decide) (hts _ k1209) (fun _ h9 => h9) rfl dX10_cuts_230 ?_
              refine lv_iload hx hb dX10_cuts_233 (lv_at hl 3 rfl) ?_
              refine fz_ald (k := 4415) (n := 1900) (k2 := (4416 + (q).toNat)) hx hb hK hP 2 rfl (by decide) mE_can rfl ⟨by omega, by omega⟩ (by decide) (if_pos (by omega)) dX10_cuts_235 ?_
              refine lv_iload_n hx hb dX10_cuts_236 rfl (lv_at hl 4 rfl) ?_
              refine lv_iload hx hb dX10_cuts_237 (lv_at hl 1 rfl) ?_
              have hz1 := ior_b hz16 ez16 hmv (by omega)
              refine fz_st (k := (4416 + (q).toNat)) (n := 62) (i := pos) (z := rn) hx hb hK hP fA_in hS 0 (by omega) (mE_canR (by omega)) rfl ⟨by omega, by omega⟩ (by decide) dX10_cuts_239 (fun H locs hP hS => ?_)
              obtain ⟨μ17, eμ17⟩ : ∃ x : va_M, x = uz μ (4416 + (q).toNat) (pos).toNat (rn) := ⟨_, rfl⟩
              rw [← eμ17] at hP
              refine lv_iinc (v := iZ (q - 1)) (lv' := [(5, .int (iZ (q - 1))), (4, .int (iZ (z16))), (7, .int (iZ (rn))), (6, .int (iZ (rl))), (3, .int (iZ (pos))), (2, .int (iZ (P9))), (1, .int (iZ (pp))), (0, .ref h0)]) hx hb dX10_cuts_240 hl (k := 3) rfl (iZ_add _ (-1)) (by decide) rfl (fun ls hl => ?_)
              refine lv_goto (tgt := 108) hx hb dX10_cuts_243 (by decide) ?_
              exact ih (z16) (q - 1) μ17 H locs ls (by omega) (by
                                    subst eμ17
                                    exact hU1) (by
                                    subst eμ17
                                    omega) (by
                                    subst eμ17
                                    rcases hz1 with ⟨z1, z2, z3⟩ | ⟨z1, z2⟩
                                    · left
                                      refine ⟨z1, ?_⟩
                                      have hs : rn = μ (4416 + q.toNat) pos.toNat := by omega
                                      rw [uz_id hs]
                                      intro x h1 h2
                                      by_cases h9 : x = q.toNat
                                      · subst h9; rw [← hs]; exact hn
                                      · rcases hd with ⟨_, hd⟩ | ⟨hd, _⟩
                                        · exact hd x (by omega) h2
                                        · omega
                                    · right
                                      refine ⟨z1, ?_⟩
                                      rcases hd with ⟨hd0, hd⟩ | ⟨_, hd⟩
                                      · have h9 := hU3 (by omega)
                                        omega
                                      · omega) (by
                                    subst eμ17
                                    rw [uz_n (by omega)]; exact hE) (by omega) hP hS (lv_sub hl [0, 1, 4, 5, 6, 7] rfl)
          · refine lv_iload hx hb dX10_cuts_174 (lv_at hl 0 rfl) ?_
            refine lv_aload_n hx hb dX10_cuts_176 rfl (lv_at hl 6 rfl) ?_
            refine fz_get (D := (dC, dI)) (ci := 10) (v := .ref (h0 + 4415)) (C := RX10) (T := TX10) (N := 53) hx hb hts inG10 hown hK hP (k := 0) (by decide) (F := mF h0) mE_obj rfl 43 (by decide) (hts _ k1209) (fun _ h9 => h9) rfl dX10_cuts_177 ?_
            refine lv_iload hx hb dX10_cuts_180 (lv_at hl 1 rfl) ?_
            refine lv_iconst (v := iZ 1) hx hb dX10_cuts_182 rfl ?_
            refine lv_iadd hx hb dX10_cuts_183 ?_
            refine lv_topi (fun x9 ex9 => ?_)
            obtain rfl : x9 = iZ (q + 1) := ex9.trans (iZ_add _ _)
            refine fz_ald (k := 4415) (n := 1900) (k2 := (4416 + (q + 1).toNat)) hx hb hK hP 2 rfl (by decide) mE_can rfl ⟨by omega, by omega⟩ (by decide) (if_pos (by omega)) dX10_cuts_184 ?_
            refine lv_iload_n hx hb dX10_cuts_185 rfl (lv_at hl 3 rfl) ?_
            refine lv_iconst (v := iZ 1) hx hb dX10_cuts_186 rfl ?_
            refine lv_iadd hx hb dX10_cuts_187 ?_
            refine lv_topi (fun x9 ex9 => ?_)
            obtain rfl : x9 = iZ (pos + 1) := ex9.trans (iZ_add _ _)
            refine fz_ld (k := (4416 + (q + 1).toNat)) (n := 62) hx hb hK hP 0 (by omega) (mE_canR (by omega)) rfl ⟨by omega, by omega⟩ (by decide) dX10_cuts_188 ?_
            rw [show μ (4416 + (q + 1).toNat) (pos + 1).toNat = μ (4416 + (q.toNat + 1)) (pos.toNat + 1) from (by rw [eq1, ep1])]
            refine va_calli (va_runS (As := [.int (iZ (rl)), .int (iZ (μ (4416 + (q.toNat + 1)) (pos.toNat + 1)))]) (rest := []) ⟨hx, hb, hml, hown, hts⟩ (m_less l dC dI cI cZ cII cIII h0 H.size μ (rl) (μ (4416 + (q.toNat + 1)) (pos.toNat + 1)) (by constructor <;> omega) (by constructor <;> omega)) (cwS 2 hts (gS_G k1532 k1533 k13 k1534) rfl rfl rfl (by decide +kernel) ⟨by show 1 + 1 ≤ _; omega, by show 8 + (2 + 11) + (14) ≤ _; omega⟩) ⟨fun a U g mk q => by obtain ⟨q0, q1, qP, qK⟩ := q; exact ⟨q0, q1, qP, va_K.moved (u := U) (U := U.calling g mk a) (Vm.Alike.refl U.vm) qK⟩, fun U hU hW => ⟨rfl, by rw [hU], by rw [hU]; exact hP, va_K.moved hW.alike hK⟩⟩ rfl rfl hl.1 rfl (lv_room (Nat.le_of_ble_eq_true rfl)) dX10_cuts_189 ⟨hRc, hRs⟩) hS (fun q _ h => fA_le hS.1 q h) (fA_le hS.1) (fun r9 u9 t9 H1 locs ht9 hvm9 hw9 hB9 hz9 hk9 hS => ?_)
            obtain ⟨μ18, rm⟩ := u9
            obtain ⟨hP, -⟩ := hB9
            rw [ht9] at hP
            generalize H1 = H at hP hS ⊢
            obtain ⟨e9, hw9⟩ := hw9
            have e9 : r9 = iZ rm := e9
            subst e9
            simp only at hP hw9
            have hμ18 := hw9; clear hw9
            rw [hμ18.1] at hP; have hμ18 := hμ18.2
            have hl2 : rm = min rl (μ (4416 + (q.toNat + 1)) (pos.toNat + 1)) := hμ18
            refine lv_istore (lv' := [(6, .int (iZ (rm))), (5, .int (iZ (q))), (4, .int (iZ (mv))), (3, .int (iZ (pos))), (2, .int (iZ (P9))), (1, .int (iZ (pp))), (0, .ref h0)]) hx hb dX10_cuts_192 hl (by decide) rfl (fun ls hl => ?_)
            refine lv_aload_n hx hb dX10_cuts_194 rfl (lv_at hl 6 rfl) ?_
            refine lv_iload hx hb dX10_cuts_195 (lv_at hl 1 rfl) ?_
            refine lv_iload_n hx hb dX10_cuts_197 rfl (lv_at hl 3 rfl) ?_
            refine lv_iload hx hb dX10_cuts_198 (lv_at hl 0 rfl) ?_
            refine va_calli (va_runV (As := [.int (iZ (q)), .int (iZ (pos)), .int (iZ (rm))]) (rest := []) ⟨hx, hb, hml, hown, hts⟩ (m_cutsFrom l dC dI cI cZ cII cIII h0 H.size μ (q) (pos) (rm) (by first | assumption | omega | exact ⟨by omega, by omega⟩) (by omega) (by first | assumption | omega | exact ⟨by omega, by omega⟩) (by exact hck)) (cwV 3 hts (gV_G k1743 k1745 ks_yX10_cutsFrom k13 k1746) rfl rfl rfl (by decide +kernel) ⟨by show 2 + 1 ≤ _; omega, by show 8 + (4 + 11) + (35) ≤ _; omega⟩) ⟨fun a U g mk q => by obtain ⟨q0, q1, qP, qK⟩ := q; exact ⟨q0, q1, qP, va_K.moved (u := U) (U := U.calling g mk a) (Vm.Alike.refl U.vm) qK⟩, va_recv hK hP (ci := 10) (q0 := 0) rfl ((fw_get (by decide)).trans (by rw [mE_obj]; rfl)), fun U hU hW => ⟨rfl, by rw [hU], by rw [hU]; exact hP, va_K.moved hW.alike hK⟩⟩ rfl rfl hl.1 rfl (lv_room (Nat.le_of_ble_eq_true rfl)) dX10_cuts_200 ⟨hRc, hRs⟩) hS (fun q _ h => fA_le hS.1 q h) (fA_le hS.1) (fun r9 u9 t9 H1 locs ht9 hvm9 hw9 hB9 hz9 hk9 hS => ?_)
            obtain ⟨μ19, rn⟩ := u9
            obtain ⟨hP, -⟩ := hB9
            rw [ht9] at hP
            generalize H1 = H at hP hS ⊢
            obtain ⟨e9, hw9⟩ := hw9
            have e9 : r9 = iZ rn := e9
            subst e9
            simp only at hP hw9
            have hμ19 := hw9; clear hw9
            rw [hμ19.1] at hP; have hμ19 := hμ19.2
            have hn : rn = cF μ q.toNat pos.toNat (tkc μ P9 pp.toNat pos.toNat q.toNat) := by
              have h9 := hμ19
              first
                | (rw [show tkc μ P9 pp.toNat pos.toNat q.toNat = rm from by
                    unfold tkc
                    rw [if_pos ⟨by omega, hlf, by omega⟩]
                    omega]
                   exact h9)
                | (rw [show tkc μ P9 pp.toNat pos.toNat q.toNat = rl from by
                    unfold tkc
                    rw [if_neg (fun hh => by
                      obtain ⟨a1, a2, a3⟩ := hh
                      first | omega | exact hnl a2), if_neg (by omega)]
                    omega]
                   exact h9)
                | (rw [show tkc μ P9 pp.toNat pos.toNat q.toNat = 1000000 from by
                    unfold tkc
                    rw [if_neg (fun hh => by have := hh.1; omega), if_pos (by omega)]]
                   exact h9)
            rw [← hTe] at hn hTR
            have hrr := cF_rng (q := q.toNat) hO1 (by omega) hc1 hTR
            have hcq := hc1 q.toNat (by omega)
            obtain ⟨hU1, hU2, hU3⟩ := wayK_up (q := q.toNat) hW hO (by omega) hTR
            rw [← hn] at hU1 hU2 hU3
            rw [e39] at hU2 hU3
            refine lv_istore (lv' := [(7, .int (iZ (rn))), (6, .int (iZ (rm))), (5, .int (iZ (q))), (4, .int (iZ (mv))), (3, .int (iZ (pos))), (2, .int (iZ (P9))), (1, .int (iZ (pp))), (0, .ref h0)]) hx hb dX10_cuts_203 hl (by decide) rfl (fun ls hl => ?_)
            refine lv_iload hx hb dX10_cuts_205 (lv_at hl 3 rfl) ?_
            refine lv_iload hx hb dX10_cuts_207 (lv_at hl 0 rfl) ?_
            refine lv_aload_n hx hb dX10_cuts_209 rfl (lv_at hl 7 rfl) ?_
            refine fz_get (D := (dC, dI)) (ci := 10) (v := .ref (h0 + 4415)) (C := RX10) (T := TX10) (N := 53) hx hb hts inG10 hown hK hP (k := 0) (by decide) (F := mF h0) mE_obj rfl 43 (by decide) (hts _ k1209) (fun _ h9 => h9) rfl dX10_cuts_210 ?_
            refine lv_iload hx hb dX10_cuts_213 (lv_at hl 2 rfl) ?_
            refine fz_ald (k := 4415) (n := 1900) (k2 := (4416 + (q).toNat)) hx hb hK hP 2 rfl (by decide) mE_can rfl ⟨by omega, by omega⟩ (by decide) (if_pos (by omega)) dX10_cuts_215 ?_
            refine lv_iload_n hx hb dX10_cuts_216 rfl (lv_at hl 4 rfl) ?_
            refine fz_ld (k := (4416 + (q).toNat)) (n := 62) hx hb hK hP 0 (by omega) (mE_canR (by omega)) rfl ⟨by omega, by omega⟩ (by decide) dX10_cuts_217 ?_
            refine fz_icmp_eq (tgt := 225) (by constructor <;> omega) (by constructor <;> omega) hx hb dX10_cuts_218 (by decide) (fun c218_ => ?_) (fun c218_ => ?_)
            · refine lv_iconst (v := iZ 0) hx hb dX10_cuts_225 rfl ?_
              refine lv_ior hx hb dX10_cuts_226 ?_
              refine lv_topi (fun x9 ex9 => ?_)
              obtain ⟨z20, rfl, hz20⟩ := iZ_ex x9
              have ez20 := ex9; clear ex9
              refine lv_istore (lv' := [(4, .int (iZ (z20))), (7, .int (iZ (rn))), (6, .int (iZ (rm))), (5, .int (iZ (q))), (3, .int (iZ (pos))), (2, .int (iZ (P9))), (1, .int (iZ (pp))), (0, .ref h0)]) hx hb dX10_cuts_227 hl (by decide) rfl (fun ls hl => ?_)
              refine lv_aload_n hx hb dX10_cuts_229 rfl (lv_at hl 7 rfl) ?_
              refine fz_get (D := (dC, dI)) (ci := 10) (v := .ref (h0 + 4415)) (C := RX10) (T := TX10) (N := 53) hx hb hts inG10 hown hK hP (k := 0) (by decide) (F := mF h0) mE_obj rfl 43 (by decide) (hts _ k1209) (fun _ h9 => h9) rfl dX10_cuts_230 ?_
              refine lv_iload hx hb dX10_cuts_233 (lv_at hl 3 rfl) ?_
              refine fz_ald (k := 4415) (n := 1900) (k2 := (4416 + (q).toNat)) hx hb hK hP 2 rfl (by decide) mE_can rfl ⟨by omega, by omega⟩ (by decide) (if_pos (by omega)) dX10_cuts_235 ?_
              refine lv_iload_n hx hb dX10_cuts_236 rfl (lv_at hl 4 rfl) ?_
              refine lv_iload hx hb dX10_cuts_237 (lv_at hl 1 rfl) ?_
              have hz1 := ior_b hz20 ez20 hmv (by omega)
              refine fz_st (k := (4416 + (q).toNat)) (n := 62) (i := pos) (z := rn) hx hb hK hP fA_in hS 0 (by omega) (mE_canR (by omega)) rfl ⟨by omega, by omega⟩ (by decide) dX10_cuts_239 (fun H locs hP hS => ?_)
              obtain ⟨μ21, eμ21⟩ : ∃ x : va_M, x = uz μ (4416 + (q).toNat) (pos).toNat (rn) := ⟨_, rfl⟩
              rw [← eμ21] at hP
              refine lv_iinc (v := iZ (q - 1)) (lv' := [(5, .int (iZ (q - 1))), (4, .int (iZ (z20))), (7, .int (iZ (rn))), (6, .int (iZ (rm))), (3, .int (iZ (pos))), (2, .int (iZ (P9))), (1, .int (iZ (pp))), (0, .ref h0)]) hx hb dX10_cuts_240 hl (k := 3) rfl (iZ_add _ (-1)) (by decide) rfl (fun ls hl => ?_)
              refine lv_goto (tgt := 108) hx hb dX10_cuts_243 (by decide) ?_
              exact ih (z20) (q - 1) μ21 H locs ls (by omega) (by
                                    subst eμ21
                                    exact hU1) (by
                                    subst eμ21
                                    omega) (by
                                    subst eμ21
                                    rcases hz1 with ⟨z1, z2, z3⟩ | ⟨z1, z2⟩
                                    · left
                                      refine ⟨z1, ?_⟩
                                      have hs : rn = μ (4416 + q.toNat) pos.toNat := by omega
                                      rw [uz_id hs]
                                      intro x h1 h2
                                      by_cases h9 : x = q.toNat
                                      · subst h9; rw [← hs]; exact hn
                                      · rcases hd with ⟨_, hd⟩ | ⟨hd, _⟩
                                        · exact hd x (by omega) h2
                                        · omega
                                    · right
                                      refine ⟨z1, ?_⟩
                                      rcases hd with ⟨hd0, hd⟩ | ⟨_, hd⟩
                                      · have h9 := hU3 (by omega)
                                        omega
                                      · omega) (by
                                    subst eμ21
                                    rw [uz_n (by omega)]; exact hE) (by omega) hP hS (lv_sub hl [0, 1, 4, 5, 6, 7] rfl)
            · refine lv_iconst (v := iZ 1) hx hb dX10_cuts_221 rfl ?_
              refine lv_goto (tgt := 226) hx hb dX10_cuts_222 (by decide) ?_
              refine lv_ior hx hb dX10_cuts_226 ?_
              refine lv_topi (fun x9 ex9 => ?_)
              obtain ⟨z22, rfl, hz22⟩ := iZ_ex x9
              have ez22 := ex9; clear ex9
              refine lv_istore (lv' := [(4, .int (iZ (z22))), (7, .int (iZ (rn))), (6, .int (iZ (rm))), (5, .int (iZ (q))), (3, .int (iZ (pos))), (2, .int (iZ (P9))), (1, .int (iZ (pp))), (0, .ref h0)]) hx hb dX10_cuts_227 hl (by decide) rfl (fun ls hl => ?_)
              refine lv_aload_n hx hb dX10_cuts_229 rfl (lv_at hl 7 rfl) ?_
              refine fz_get (D := (dC, dI)) (ci := 10) (v := .ref (h0 + 4415)) (C := RX10) (T := TX10) (N := 53) hx hb hts inG10 hown hK hP (k := 0) (by decide) (F := mF h0) mE_obj rfl 43 (by decide) (hts _ k1209) (fun _ h9 => h9) rfl dX10_cuts_230 ?_
              refine lv_iload hx hb dX10_cuts_233 (lv_at hl 3 rfl) ?_
              refine fz_ald (k := 4415) (n := 1900) (k2 := (4416 + (q).toNat)) hx hb hK hP 2 rfl (by decide) mE_can rfl ⟨by omega, by omega⟩ (by decide) (if_pos (by omega)) dX10_cuts_235 ?_
              refine lv_iload_n hx hb dX10_cuts_236 rfl (lv_at hl 4 rfl) ?_
              refine lv_iload hx hb dX10_cuts_237 (lv_at hl 1 rfl) ?_
              have hz1 := ior_b hz22 ez22 hmv (by omega)
              refine fz_st (k := (4416 + (q).toNat)) (n := 62) (i := pos) (z := rn) hx hb hK hP fA_in hS 0 (by omega) (mE_canR (by omega)) rfl ⟨by omega, by omega⟩ (by decide) dX10_cuts_239 (fun H locs hP hS => ?_)
              obtain ⟨μ23, eμ23⟩ : ∃ x : va_M, x = uz μ (4416 + (q).toNat) (pos).toNat (rn) := ⟨_, rfl⟩
              rw [← eμ23] at hP
              refine lv_iinc (v := iZ (q - 1)) (lv' := [(5, .int (iZ (q - 1))), (4, .int (iZ (z22))), (7, .int (iZ (rn))), (6, .int (iZ (rm))), (3, .int (iZ (pos))), (2, .int (iZ (P9))), (1, .int (iZ (pp))), (0, .ref h0)]) hx hb dX10_cuts_240 hl (k := 3) rfl (iZ_add _ (-1)) (by decide) rfl (fun ls hl => ?_)
              refine lv_goto (tgt := 108) hx hb dX10_cuts_243 (by decide) ?_
              exact ih (z22) (q - 1) μ23 H locs ls (by omega) (by
                                    subst eμ23
                                    exact hU1) (by
                                    subst eμ23
                                    omega) (by
                                    subst eμ23
                                    rcases hz1 with ⟨z1, z2, z3⟩ | ⟨z1, z2⟩
                                    · left
                                      refine ⟨z1, ?_⟩
                                      have hs : rn = μ (4416 + q.toNat) pos.toNat := by omega
                                      rw [uz_id hs]
                                      intro x h1 h2
                                      by_cases h9 : x = q.toNat
                                      · subst h9; rw [← hs]; exact hn
                                      · rcases hd with ⟨_, hd⟩ | ⟨hd, _⟩
                                        · exact hd x (by omega) h2
                                        · omega
                                    · right
                                      refine ⟨z1, ?_⟩
                                      rcases hd with ⟨hd0, hd⟩ | ⟨_, hd⟩
                                      · have h9 := hU3 (by omega)
                                        omega
                                      · omega) (by
                                    subst eμ23
                                    rw [uz_n (by omega)]; exact hE) (by omega) hP hS (lv_sub hl [0, 1, 4, 5, 6, 7] rfl)
      · refine lv_ldc (v := iZ 1000000) hx hb hown (hts _ k1551) dX10_cuts_118 ?_
        refine lv_goto (tgt := 141) hx hb dX10_cuts_120 (by decide) ?_
        refine lv_istore (lv' := [(6, .int (iZ (1000000))), (5, .int (iZ (q))), (4, .int (iZ (mv))), (3, .int (iZ (pos))), (2, .int (iZ (P9))), (1, .int (iZ (pp))), (0, .ref h0)]) hx hb dX10_cuts_141 hl (by decide) rfl (fun ls hl => ?_)
        refine lv_iload_n hx hb dX10_cuts_143 rfl (lv_at hl 3 rfl) ?_
        refine lv_iload_n hx hb dX10_cuts_144 rfl (lv_at hl 4 rfl) ?_
        refine fz_icmp_ge (tgt := 194) (by constructor <;> omega) (by constructor <;> omega) hx hb dX10_cuts_145 (by decide) (fun c145_ => ?_) (fun h9 => (by omega))
        refine lv_aload_n hx hb dX10_cuts_194 rfl (lv_at hl 6 rfl) ?_
        refine lv_iload hx hb dX10_cuts_195 (lv_at hl 1 rfl) ?_
        refine lv_iload_n hx hb dX10_cuts_197 rfl (lv_at hl 3 rfl) ?_
        refine lv_iload hx hb dX10_cuts_198 (lv_at hl 0 rfl) ?_
        refine va_calli (va_runV (As := [.int (iZ (q)), .int (iZ (pos)), .int (iZ (1000000))]) (rest := []) ⟨hx, hb, hml, hown, hts⟩ (m_cutsFrom l dC dI cI cZ cII cIII h0 H.size μ (q) (pos) (1000000) (by first | assumption | omega | exact ⟨by omega, by omega⟩) (by omega) (by first | assumption | omega | exact ⟨by omega, by omega⟩) (by exact hck)) (cwV 3 hts (gV_G k1743 k1745 ks_yX10_cutsFrom k13 k1746) rfl rfl rfl (by decide +kernel) ⟨by show 2 + 1 ≤ _; omega, by show 8 + (4 + 11) + (35) ≤ _; omega⟩) ⟨fun a U g mk q => by obtain ⟨q0, q1, qP, qK⟩ := q; exact ⟨q0, q1, qP, va_K.moved (u := U) (U := U.calling g mk a) (Vm.Alike.refl U.vm) qK⟩, va_recv hK hP (ci := 10) (q0 := 0) rfl ((fw_get (by decide)).trans (by rw [mE_obj]; rfl)), fun U hU hW => ⟨rfl, by rw [hU], by rw [hU]; exact hP, va_K.moved hW.alike hK⟩⟩ rfl rfl hl.1 rfl (lv_room (Nat.le_of_ble_eq_true rfl)) dX10_cuts_200 ⟨hRc, hRs⟩) hS (fun q _ h => fA_le hS.1 q h) (fA_le hS.1) (fun r9 u9 t9 H1 locs ht9 hvm9 hw9 hB9 hz9 hk9 hS => ?_)
        obtain ⟨μ24, rn⟩ := u9
        obtain ⟨hP, -⟩ := hB9
        rw [ht9] at hP
        generalize H1 = H at hP hS ⊢
        obtain ⟨e9, hw9⟩ := hw9
        have e9 : r9 = iZ rn := e9
        subst e9
        simp only at hP hw9
        have hμ24 := hw9; clear hw9
        rw [hμ24.1] at hP; have hμ24 := hμ24.2
        have hn : rn = cF μ q.toNat pos.toNat (tkc μ P9 pp.toNat pos.toNat q.toNat) := by
          have h9 := hμ24
          first
            | (rw [show tkc μ P9 pp.toNat pos.toNat q.toNat = rm from by
                unfold tkc
                rw [if_pos ⟨by omega, hlf, by omega⟩]
                omega]
               exact h9)
            | (rw [show tkc μ P9 pp.toNat pos.toNat q.toNat = rl from by
                unfold tkc
                rw [if_neg (fun hh => by
                  obtain ⟨a1, a2, a3⟩ := hh
                  first | omega | exact hnl a2), if_neg (by omega)]
                omega]
               exact h9)
            | (rw [show tkc μ P9 pp.toNat pos.toNat q.toNat = 1000000 from by
                unfold tkc
                rw [if_neg (fun hh => by have := hh.1; omega), if_pos (by omega)]]
               exact h9)
        rw [← hTe] at hn hTR
        have hrr := cF_rng (q := q.toNat) hO1 (by omega) hc1 hTR
        have hcq := hc1 q.toNat (by omega)
        obtain ⟨hU1, hU2, hU3⟩ := wayK_up (q := q.toNat) hW hO (by omega) hTR
        rw [← hn] at hU1 hU2 hU3
        rw [e39] at hU2 hU3
        refine lv_istore (lv' := [(7, .int (iZ (rn))), (6, .int (iZ (1000000))), (5, .int (iZ (q))), (4, .int (iZ (mv))), (3, .int (iZ (pos))), (2, .int (iZ (P9))), (1, .int (iZ (pp))), (0, .ref h0)]) hx hb dX10_cuts_203 hl (by decide) rfl (fun ls hl => ?_)
        refine lv_iload hx hb dX10_cuts_205 (lv_at hl 3 rfl) ?_
        refine lv_iload hx hb dX10_cuts_207 (lv_at hl 0 rfl) ?_
        refine lv_aload_n hx hb dX10_cuts_209 rfl (lv_at hl 7 rfl) ?_
        refine fz_get (D := (dC, dI)) (ci := 10) (v := .ref (h0 + 4415)) (C := RX10) (T := TX10) (N := 53) hx hb hts inG10 hown hK hP (k := 0) (by decide) (F := mF h0) mE_obj rfl 43 (by decide) (hts _ k1209) (fun _ h9 => h9) rfl dX10_cuts_210 ?_
        refine lv_iload hx hb dX10_cuts_213 (lv_at hl 2 rfl) ?_
        refine fz_ald (k := 4415) (n := 1900) (k2 := (4416 + (q).toNat)) hx hb hK hP 2 rfl (by decide) mE_can rfl ⟨by omega, by omega⟩ (by decide) (if_pos (by omega)) dX10_cuts_215 ?_
        refine lv_iload_n hx hb dX10_cuts_216 rfl (lv_at hl 4 rfl) ?_
        refine fz_ld (k := (4416 + (q).toNat)) (n := 62) hx hb hK hP 0 (by omega) (mE_canR (by omega)) rfl ⟨by omega, by omega⟩ (by decide) dX10_cuts_217 ?_
        refine fz_icmp_eq (tgt := 225) (by constructor <;> omega) (by constructor <;> omega) hx hb dX10_cuts_218 (by decide) (fun c218_ => ?_) (fun c218_ => ?_)
        · refine lv_iconst (v := iZ 0) hx hb dX10_cuts_225 rfl ?_
          refine lv_ior hx hb dX10_cuts_226 ?_
          refine lv_topi (fun x9 ex9 => ?_)
          obtain ⟨z25, rfl, hz25⟩ := iZ_ex x9
          have ez25 := ex9; clear ex9
          refine lv_istore (lv' := [(4, .int (iZ (z25))), (7, .int (iZ (rn))), (6, .int (iZ (1000000))), (5, .int (iZ (q))), (3, .int (iZ (pos))), (2, .int (iZ (P9))), (1, .int (iZ (pp))), (0, .ref h0)]) hx hb dX10_cuts_227 hl (by decide) rfl (fun ls hl => ?_)
          refine lv_aload_n hx hb dX10_cuts_229 rfl (lv_at hl 7 rfl) ?_
          refine fz_get (D := (dC, dI)) (ci := 10) (v := .ref (h0 + 4415)) (C := RX10) (T := TX10) (N := 53) hx hb hts inG10 hown hK hP (k := 0) (by decide) (F := mF h0) mE_obj rfl 43 (by decide) (hts _ k1209) (fun _ h9 => h9) rfl dX10_cuts_230 ?_
          refine lv_iload hx hb dX10_cuts_233 (lv_at hl 3 rfl) ?_
          refine fz_ald (k := 4415) (n := 1900) (k2 := (4416 + (q).toNat)) hx hb hK hP 2 rfl (by decide) mE_can rfl ⟨by omega, by omega⟩ (by decide) (if_pos (by omega)) dX10_cuts_235 ?_
          refine lv_iload_n hx hb dX10_cuts_236 rfl (lv_at hl 4 rfl) ?_
          refine lv_iload hx hb dX10_cuts_237 (lv_at hl 1 rfl) ?_
          have hz1 := ior_b hz25 ez25 hmv (by omega)
          refine fz_st (k := (4416 + (q).toNat)) (n := 62) (i := pos) (z := rn) hx hb hK hP fA_in hS 0 (by omega) (mE_canR (by omega)) rfl ⟨by omega, by omega⟩ (by decide) dX10_cuts_239 (fun H locs hP hS => ?_)
          obtain ⟨μ26, eμ26⟩ : ∃ x : va_M, x = uz μ (4416 + (q).toNat) (pos).toNat (rn) := ⟨_, rfl⟩
          rw [← eμ26] at hP
          refine lv_iinc (v := iZ (q - 1)) (lv' := [(5, .int (iZ (q - 1))), (4, .int (iZ (z25))), (7, .int (iZ (rn))), (6, .int (iZ (1000000))), (3, .int (iZ (pos))), (2, .int (iZ (P9))), (1, .int (iZ (pp))), (0, .ref h0)]) hx hb dX10_cuts_240 hl (k := 3) rfl (iZ_add _ (-1)) (by decide) rfl (fun ls hl => ?_)
          refine lv_goto (tgt := 108) hx hb dX10_cuts_243 (by decide) ?_
          exact ih (z25) (q - 1) μ26 H locs ls (by omega) (by
                            subst eμ26
                            exact hU1) (by
                            subst eμ26
                            omega) (by
                            subst eμ26
                            rcases hz1 with ⟨z1, z2, z3⟩ | ⟨z1, z2⟩
                            · left
                              refine ⟨z1, ?_⟩
                              have hs : rn = μ (4416 + q.toNat) pos.toNat := by omega
                              rw [uz_id hs]
                              intro x h1 h2
                              by_cases h9 : x = q.toNat
                              · subst h9; rw [← hs]; exact hn
                              · rcases hd with ⟨_, hd⟩ | ⟨hd, _⟩
                                · exact hd x (by omega) h2
                                · omega
                            · right
                              refine ⟨z1, ?_⟩
                              rcases hd with ⟨hd0, hd⟩ | ⟨_, hd⟩
                              · have h9 := hU3 (by omega)
                                omega
                              · omega) (by
                            subst eμ26
                            rw [uz_n (by omega)]; exact hE) (by omega) hP hS (lv_sub hl [0, 1, 4, 5, 6, 7] rfl)
        · refine lv_iconst (v := iZ 1) hx hb dX10_cuts_221 rfl ?_
          refine lv_goto (tgt := 226) hx hb dX10_cuts_222 (by decide) ?_
          refine lv_ior hx hb dX10_cuts_226 ?_
          refine lv_topi (fun x9 ex9 => ?_)
          obtain ⟨z27, rfl, hz27⟩ := iZ_ex x9
          have ez27 := ex9; clear ex9
          refine lv_istore (lv' := [(4, .int (iZ (z27))), (7, .int (iZ (rn))), (6, .int (iZ (1000000))), (5, .int (iZ (q))), (3, .int (iZ (pos))), (2, .int (iZ (P9))), (1, .int (iZ (pp))), (0, .ref h0)]) hx hb dX10_cuts_227 hl (by decide) rfl (fun ls hl => ?_)
          refine lv_aload_n hx hb dX10_cuts_229 rfl (lv_at hl 7 rfl) ?_
          refine fz_get (D := (dC, dI)) (ci := 10) (v := .ref (h0 + 4415)) (C := RX10) (T := TX10) (N := 53) hx hb hts inG10 hown hK hP (k := 0) (by decide) (F := mF h0) mE_obj rfl 43 (by decide) (hts _ k1209) (fun _ h9 => h9) rfl dX10_cuts_230 ?_
          refine lv_iload hx hb dX10_cuts_233 (lv_at hl 3 rfl) ?_
          refine fz_ald (k := 4415) (n := 1900) (k2 := (4416 + (q).toNat)) hx hb hK hP 2 rfl (by decide) mE_can rfl ⟨by omega, by omega⟩ (by decide) (if_pos (by omega)) dX10_cuts_235 ?_
          refine lv_iload_n hx hb dX10_cuts_236 rfl (lv_at hl 4 rfl) ?_
          refine lv_iload hx hb dX10_cuts_237 (lv_at hl 1 rfl) ?_
          have hz1 := ior_b hz27 ez27 hmv (by omega)
          refine fz_st (k := (4416 + (q).toNat)) (n := 62) (i := pos) (z := rn) hx hb hK hP fA_in hS 0 (by omega) (mE_canR (by omega)) rfl ⟨by omega, by omega⟩ (by decide) dX10_cuts_239 (fun H locs hP hS => ?_)
          obtain ⟨μ28, eμ28⟩ : ∃ x : va_M, x = uz μ (4416 + (q).toNat) (pos).toNat (rn) := ⟨_, rfl⟩
          rw [← eμ28] at hP
          refine lv_iinc (v := iZ (q - 1)) (lv' := [(5, .int (iZ (q - 1))), (4, .int (iZ (z27))), (7, .int (iZ (rn))), (6, .int (iZ (1000000))), (3, .int (iZ (pos))), (2, .int (iZ (P9))), (1, .int (iZ (pp))), (0, .ref h0)]) hx hb dX10_cuts_240 hl (k := 3) rfl (iZ_add _ (-1)) (by decide) rfl (fun ls hl => ?_)
          refine lv_goto (tgt := 108) hx hb dX10_cuts_243 (by decide) ?_
          exact ih (z27) (q - 1) μ28 H locs ls (by omega) (by
                            subst eμ28
                            exact hU1) (by
                            subst eμ28
                            omega) (by
                            subst eμ28
                            rcases hz1 with ⟨z1, z2, z3⟩ | ⟨z1, z2⟩
                            · left
                              refine ⟨z1, ?_⟩
                              have hs : rn = μ (4416 + q.toNat) pos.toNat := by omega
                              rw [uz_id hs]
                              intro x h1 h2
                              by_cases h9 : x = q.toNat
                              · subst h9; rw [← hs]; exact hn
                              · rcases hd with ⟨_, hd⟩ | ⟨hd, _⟩
                                · exact hd x (by omega) h2
                                · omega
                            · right
                              refine ⟨z1, ?_⟩
                              rcases hd with ⟨hd0, hd⟩ | ⟨_, hd⟩
                              · have h9 := hU3 (by omega)
                                omega
                              · omega) (by
                            subst eμ28
                            rw [uz_n (by omega)]; exact hE) (by omega) hP hS (lv_sub hl [0, 1, 4, 5, 6, 7] rfl)
set_option maxHeartbeats 4000000 in
set_option maxRecDepth 100000 in
theorem LX10_cuts_92b {p : Program} {l : Launch} {e : Env} {R : Room} {s : State} {m : MethodId} {args : Array Value} {below : List Frame} {meth : Method} {c : Code} {cells slots : Nat} {Q : State → Prop} {dC : Nat → ClassId} {dI : Nat → Nat → Nat} {h0 : Nat} {cI cZ cII cIII : ClassId} (hx : p.tables.exec = Jvm.exec) (hb : c.code = cX10_cuts) (hml : c.maxLocals = 8) (hown : s.vm.findClass RX10 = some m.cls) (hts : ∀ w ∈ wsG, w.before args s = true) (hK : va_K (dC, dI) vwCl (mT cI cZ cII cIII) s) (hRf : 5 ≤ R.frames) (hRl : 120 ≤ R.locals) (hRc : cells ≤ R.cells) (hRs : slots ≤ R.slots) (μ0 : va_M) (pp : Int) (P9 : Int) (pos : Int) (hO : stOK μ0) (hpp : 0 ≤ pp ∧ pp < 8) (hpos : 0 ≤ pos ∧ pos ≤ P9) (hP9 : P9 ≤ 60) (hsr : ∀ j : Nat, j < 201 → inR (μ0 3 j)) (htk : ∀ k : Nat, (k : Int) < P9 → 0 ≤ μ0 (7 + pp.toNat) k ∧ μ0 (7 + pp.toNat) k < 201) (hnx : pos < P9 → cOC μ0 (pos.toNat + 1)) (hexit249 : ∀ (mv : Int) (μ : va_M) (H : Heap) (locs : List Loc) (ls : Array Slot), (fr (colF pos.toNat) μ0 μ) → (uFix μ P9 pp.toNat pos.toNat) → va_P (dC, dI) vwCl (fw (mE cI cZ cII cIII h0) h0 6325 μ) H → va_S (fA h0 6325 s.heap.size) s.heap H locs → lv_has ls 8 [(3, .int (iZ (pos))), (2, .int (iZ (P9))), (1, .int (iZ (pp))), (0, .ref h0)] → W p l e R s m args below meth c H locs cells slots Q (F0 m 249 ls [])) :
    ∀ (n9 : Nat) (mv : Int) (μ : va_M) (H : Heap) (locs : List Loc) (ls : Array Slot), (wayK μ0 μ pos.toNat (tkc μ0 P9 pp.toNat pos.toNat)) → ((mv = 0 ∧ ∀ x : Nat, (x : Int) < μ0 0 39 → μ (4416 + x) pos.toNat = cF μ x pos.toNat (tkc μ0 P9 pp.toNat pos.toNat x)) ∨ mv = 1) → (μ (4416 + (μ0 0 39).toNat) pos.toNat = P9 - pos) → 2 * mD μ pos.toNat (μ0 0 39).toNat + mv.toNat < n9 → va_P (dC, dI) vwCl (fw (mE cI cZ cII cIII h0) h0 6325 μ) H → va_S (fA h0 6325 s.heap.size) s.heap H locs → lv_has ls 8 [(4, .int (iZ (mv))), (3, .int (iZ (pos))), (2, .int (iZ (P9))), (1, .int (iZ (pp))), (0, .ref h0)] → W p l e R s m args below meth c H locs cells slots Q (F0 m 92 ls []) := by
  intro n9
  induction n9 with
  | zero => intro mv μ H locs ls hW hd hE hm9 hP hS hl; exact absurd hm9 (Nat.not_lt_zero _)
  | succ n9 ih =>
    intro mv μ H locs ls hW hd hE hm9 hP hS hl
    have hO1 := wayK_O hW hO
    have hf := hW.1
    have e39 : μ 0 39 = μ0 0 39 := hf 0 39 (colF_n (by omega))
    have hb1 := hO.1
    have hb2 := hO.2.1
    have hmv : mv = 0 ∨ mv = 1 := by rcases hd with h | h <;> omega
    refine lv_iload hx hb dX10_cuts_92 (lv_at hl 0 rfl) ?_
    refine fz_if_eq (tgt := 249) (by constructor <;> omega) hx hb dX10_cuts_94 (by decide) (fun c94_ => ?_) (fun c94_ => ?_)
    · exact hexit249 (mv) μ H locs ls (by exact hf) (by
                    refine ⟨hW.2.2, ?_, fun x hx => ?_⟩
                    · rw [e39, hE]
                      omega
                    · rw [← tkc_e hf (show pp.toNat < 8 by omega)]
                      rcases hd with ⟨_, h2⟩ | h2
                      · exact h2 x (by omega)
                      · omega) hP hS (lv_sub hl [1, 2, 3, 4] rfl)
    · refine lv_iconst (v := iZ 0) hx hb dX10_cuts_97 rfl ?_
      refine lv_istore (lv' := [(4, .int (iZ (0))), (3, .int (iZ (pos))), (2, .int (iZ (P9))), (1, .int (iZ (pp))), (0, .ref h0)]) hx hb dX10_cuts_98 hl (by decide) rfl (fun ls hl => ?_)
      refine lv_aload_n hx hb dX10_cuts_100 rfl (lv_at hl 4 rfl) ?_
      refine fz_get (D := (dC, dI)) (ci := 10) (v := .int (iZ (μ 0 39))) (C := RX10) (T := TX10) (N := 53) hx hb hts inG10 hown hK hP (k := 0) (by decide) (F := mF h0) mE_obj rfl 39 (by decide) (hts _ k1205) (fun _ h9 => h9) rfl dX10_cuts_101 ?_
      refine lv_iconst (v := iZ 1) hx hb dX10_cuts_104 rfl ?_
      refine lv_isub hx hb dX10_cuts_105 ?_
      refine lv_topi (fun x9 ex9 => ?_)
      obtain rfl : x9 = iZ ((μ 0 39) - 1) := ex9.trans (iZ_sub _ _)
      refine lv_istore (lv' := [(5, .int (iZ ((μ 0 39) - 1))), (4, .int (iZ (0))), (3, .int (iZ (pos))), (2, .int (iZ (P9))), (1, .int (iZ (pp))), (0, .ref h0)]) hx hb dX10_cuts_106 hl (by decide) rfl (fun ls hl => ?_)
      refine LX10_cuts_108b hx hb hml hown hts hK hRf hRl hRc hRs (μ0) (pp) (P9) (pos) (mD μ pos.toNat (μ0 0 39).toNat) (by assumption) (by assumption) (by assumption) (by assumption) (by assumption) (by assumption) (by assumption) ?_ _ (0) ((μ 0 39) - 1) μ H locs ls (by omega) (by exact hW) (by exact Nat.le_refl _) (by
                    left
                    exact ⟨rfl, fun x h1 h2 => by omega⟩) (by exact hE) (Nat.lt_succ_self _) hP hS (lv_sub hl [0, 1, 2, 3, 4, 5] rfl)
      · intro mv_29 q_29 μ29_ H locs ls q3_29 q4_29 q5_29 hP hS hl
        have hl : lv_has ls 8 [(4, .int (iZ (mv_29))), (3, .int (iZ (pos))), (2, .int (iZ (P9))), (1, .int (iZ (pp))), (0, .ref h0)] := hl
        refine lv_goto (tgt := 92) hx hb dX10_cuts_246 (by decide) ?_
        exact ih (mv_29) μ29_ H locs ls (by exact q3_29) (by
                        rcases q4_29 with ⟨h1, _, h2⟩ | ⟨h1, h2⟩
                        · exact Or.inl ⟨h1, h2⟩
                        · exact Or.inr h1) (by exact q5_29) (by rcases q4_29 with ⟨h1, h2, _⟩ | ⟨h1, h2⟩ <;> omega) hP hS (lv_sub hl [0, 1, 2, 3, 4] rfl)
set_option maxHeartbeats 4000000 in
set_option maxRecDepth 100000 in
theorem LX10_cuts_42b {p : Program} {l : Launch} {e : Env} {R : Room} {s : State} {m : MethodId} {args : Array Value} {below : List Frame} {meth : Method} {c : Code} {cells slots : Nat} {Q : State → Prop} {dC : Nat → ClassId} {dI : Nat → Nat → Nat} {h0 : Nat} {cI cZ cII cIII : ClassId} (hx : p.tables.exec = Jvm.exec) (hb : c.code = cX10_cuts) (hml : c.maxLocals = 8) (hown : s.vm.findClass RX10 = some m.cls) (hts : ∀ w ∈ wsG, w.before args s = true) (hK : va_K (dC, dI) vwCl (mT cI cZ cII cIII) s) (hRf : 5 ≤ R.frames) (hRl : 120 ≤ R.locals) (hRc : cells ≤ R.cells) (hRs : slots ≤ R.slots) (μ0 : va_M) (pp : Int) (P9 : Int) (hO : stOK μ0) (hpp : 0 ≤ pp ∧ pp < 8) (hP9 : 0 ≤ P9 ∧ P9 ≤ 60) (hsr : ∀ j : Nat, j < 201 → inR (μ0 3 j)) (htk : ∀ k : Nat, (k : Int) < P9 → 0 ≤ μ0 (7 + pp.toNat) k ∧ μ0 (7 + pp.toNat) k < 201) (hexit255 : ∀ (pos : Int) (μ : va_M) (H : Heap) (locs : List Loc) (ls : Array Slot), (fr (fun x y => CF x) μ0 μ) → (∀ c : Nat, (c : Int) ≤ P9 → uFix μ P9 pp.toNat c) → va_P (dC, dI) vwCl (fw (mE cI cZ cII cIII h0) h0 6325 μ) H → va_S (fA h0 6325 s.heap.size) s.heap H locs → lv_has ls 8 [(0, .ref h0)] → W p l e R s m args below meth c H locs cells slots Q (F0 m 255 ls [])) :
    ∀ (n9 : Nat) (pos : Int) (μ : va_M) (H : Heap) (locs : List Loc) (ls : Array Slot), (-1 ≤ pos ∧ pos ≤ P9) → (fr (fun x y => CF x) μ0 μ) → (∀ c : Nat, pos < (c : Int) → (c : Int) ≤ P9 → uFix μ P9 pp.toNat c) → (pos + 2).toNat < n9 → va_P (dC, dI) vwCl (fw (mE cI cZ cII cIII h0) h0 6325 μ) H → va_S (fA h0 6325 s.heap.size) s.heap H locs → lv_has ls 8 [(3, .int (iZ (pos))), (2, .int (iZ (P9))), (1, .int (iZ (pp))), (0, .ref h0)] → W p l e R s m args below meth c H locs cells slots Q (F0 m 42 ls []) := by
  intro n9
  induction n9 with
  | zero => intro pos μ H locs ls hpos hf hc hm9 hP hS hl; exact absurd hm9 (Nat.not_lt_zero _)
  | succ n9 ih =>
    intro pos μ H locs ls hpos hf hc hm9 hP hS hl
    have hO1 : stOK μ := stOK_fr hO hf (fun x y hh => by unfold CF at hh; omega)
    have e39 : μ 0 39 = μ0 0 39 := hf 0 39 (by unfold CF; omega)
    have hb1 := hO.1
    have hb2 := hO.2.1
    refine lv_iload_n hx hb dX10_cuts_42 rfl (lv_at hl 0 rfl) ?_
    refine fz_if_lt (tgt := 255) (by constructor <;> omega) hx hb dX10_cuts_43 (by decide) (fun c43_ => ?_) (fun c43_ => ?_)
    · exact hexit255 (pos) μ H locs ls (by exact hf) (by
                    intro c hc9
                    exact hc c (by omega) hc9) hP hS (lv_sub hl [3] rfl)
    · refine lv_iconst (v := iZ 0) hx hb dX10_cuts_46 rfl ?_
      refine lv_istore (lv' := [(4, .int (iZ (0))), (3, .int (iZ (pos))), (2, .int (iZ (P9))), (1, .int (iZ (pp))), (0, .ref h0)]) hx hb dX10_cuts_47 hl (by decide) rfl (fun ls hl => ?_)
      refine LX10_cuts_49b hx hb hml hown hts hK hRf hRl hRc hRs (μ) (pp) (P9) (pos) (by exact hO1) (by omega) ?_ _ (0) μ H locs ls (by omega) (by exact fr_rfl) (by intro x hx; omega) (Nat.lt_succ_self _) hP hS (lv_sub hl [0, 1, 2, 3, 4] rfl)
      · intro q_30 μ30_ H locs ls q1_30 q2_30 hP hS hl
        have hl : lv_has ls 8 [(3, .int (iZ (pos))), (2, .int (iZ (P9))), (1, .int (iZ (pp))), (0, .ref h0)] := hl
        have k39 : μ30_ 0 39 = μ0 0 39 := (q1_30 0 39 (colF_n (by omega))).trans e39
        refine lv_aload_n hx hb dX10_cuts_75 rfl (lv_at hl 3 rfl) ?_
        refine fz_get (D := (dC, dI)) (ci := 10) (v := .ref (h0 + 4415)) (C := RX10) (T := TX10) (N := 53) hx hb hts inG10 hown hK hP (k := 0) (by decide) (F := mF h0) mE_obj rfl 43 (by decide) (hts _ k1209) (fun _ h9 => h9) rfl dX10_cuts_76 ?_
        refine lv_aload_n hx hb dX10_cuts_79 rfl (lv_at hl 3 rfl) ?_
        refine fz_get (D := (dC, dI)) (ci := 10) (v := .int (iZ (μ30_ 0 39))) (C := RX10) (T := TX10) (N := 53) hx hb hts inG10 hown hK hP (k := 0) (by decide) (F := mF h0) mE_obj rfl 39 (by decide) (hts _ k1205) (fun _ h9 => h9) rfl dX10_cuts_80 ?_
        rw [show μ30_ 0 39 = μ0 0 39 from (by exact k39)]
        refine fz_ald (k := 4415) (n := 1900) (k2 := (4416 + (μ0 0 39).toNat)) hx hb hK hP 2 rfl (by decide) mE_can rfl ⟨by omega, by omega⟩ (by decide) (if_pos (by omega)) dX10_cuts_83 ?_
        refine lv_iload_n hx hb dX10_cuts_84 rfl (lv_at hl 0 rfl) ?_
        refine lv_iload_n hx hb dX10_cuts_85 rfl (lv_at hl 1 rfl) ?_
        refine lv_iload_n hx hb dX10_cuts_86 rfl (lv_at hl 0 rfl) ?_
        refine lv_isub hx hb dX10_cuts_87 ?_
        refine lv_topi (fun x9 ex9 => ?_)
        obtain rfl : x9 = iZ (P9 - pos) := ex9.trans (iZ_sub _ _)
        refine fz_st (k := (4416 + (μ0 0 39).toNat)) (n := 62) (i := pos) (z := (P9 - pos)) hx hb hK hP fA_in hS 0 (by omega) (mE_canR (by omega)) rfl ⟨by omega, by omega⟩ (by decide) dX10_cuts_88 (fun H locs hP hS => ?_)
        obtain ⟨μ31, eμ31⟩ : ∃ x : va_M, x = uz μ30_ (4416 + (μ0 0 39).toNat) (pos).toNat (P9 - pos) := ⟨_, rfl⟩
        rw [← eμ31] at hP
        refine lv_iconst (v := iZ 1) hx hb dX10_cuts_89 rfl ?_
        refine lv_istore (lv' := [(4, .int (iZ (1))), (3, .int (iZ (pos))), (2, .int (iZ (P9))), (1, .int (iZ (pp))), (0, .ref h0)]) hx hb dX10_cuts_90 hl (by decide) rfl (fun ls hl => ?_)
        refine LX10_cuts_92b hx hb hml hown hts hK hRf hRl hRc hRs (μ) (pp) (P9) (pos) (by exact hO1) (by exact hpp) (by omega) (by omega) (by intro j hj; rw [hf _ _ (by unfold CF; omega)]; exact hsr j hj) (by intro k hk; rw [hf _ _ (by unfold CF; omega)]; exact htk k hk) (by
                        intro h9
                        exact (hc (pos.toNat + 1) (by omega) (by omega)).1) ?_ _ (1) μ31 H locs ls (by
                        subst eμ31
                        have z39 : ∀ v, uz μ30_ (4416 + (μ0 0 39).toNat) pos.toNat v 0 39 = μ0 0 39 := fun v => by rw [uz_n (by omega)]; exact k39
                        have hcz : cOC (uz μ30_ (4416 + (μ0 0 39).toNat) pos.toNat (P9 - pos)) pos.toNat := fun x hx => by
                          rw [z39] at hx
                          by_cases h9 : x = (μ0 0 39).toNat
                          · subst h9; rw [uz_s]; omega
                          · rw [uz_n (by omega), q2_30 x (by omega)]; omega
                        have zf : fr (colF pos.toNat) μ (uz μ30_ (4416 + (μ0 0 39).toNat) pos.toNat (P9 - pos)) := fr_uz q1_30 ⟨by unfold CF; omega, rfl⟩
                        have zO : stOK (uz μ30_ (4416 + (μ0 0 39).toNat) pos.toNat (P9 - pos)) := stOK_fr hO1 zf (fun x y hh => by unfold colF CF at hh; omega)
                        refine ⟨zf, fun x hx => ?_, hcz⟩
                        rw [z39] at hx
                        have hwr := cF_rng (q := x) zO (by rw [z39]; exact hx) hcz (tkc_rng (P := P9) (pp := pp.toNat) (μ := μ) (pos := pos.toNat) (x := x) (by omega) (by omega) (fun h9 => (hc (pos.toNat + 1) (by omega) (by omega)).1))
                        rw [uz_n (show ¬ (4416 + x = 4416 + (μ0 0 39).toNat ∧ pos.toNat = pos.toNat) by omega), q2_30 x (by omega)]
                        exact hwr.2) (by exact Or.inr rfl) (by
                        subst eμ31
                        have e7_ := q1_30 0 39 (colF_n (by omega))
                        rw [show (μ 0 39).toNat = (μ0 0 39).toNat by omega, uz_s]) (Nat.lt_succ_self _) hP hS (lv_sub hl [0, 1, 2, 3, 4] rfl)
        · intro mv_32 μ32_ H locs ls q5_32 q6_32 hP hS hl
          have hl : lv_has ls 8 [(3, .int (iZ (pos))), (2, .int (iZ (P9))), (1, .int (iZ (pp))), (0, .ref h0)] := hl
          refine lv_iinc (v := iZ (pos - 1)) (lv' := [(3, .int (iZ (pos - 1))), (2, .int (iZ (P9))), (1, .int (iZ (pp))), (0, .ref h0)]) hx hb dX10_cuts_249 hl (k := 0) rfl (iZ_add _ (-1)) (by decide) rfl (fun ls hl => ?_)
          refine lv_goto (tgt := 42) hx hb dX10_cuts_252 (by decide) ?_
          exact ih (pos - 1) μ32_ H locs ls (by omega) (by exact fr_trans hf (fr_mono q5_32 (fun x y h => h.1))) (by
                            intro c h1 h2
                            by_cases h9 : c = pos.toNat
                            · subst h9; exact q6_32
                            · exact uFix_fr (hc c (by omega) h2) q5_32 (by omega) (fun x y hh => ⟨hh.1, by have h8 : y = pos.toNat := hh.2; omega⟩)) (by omega) hP hS (lv_sub hl [0, 1, 2, 3] rfl)
set_option maxHeartbeats 4000000 in
set_option maxRecDepth 100000 in
theorem f_cuts (l : Launch) (dC : Nat → ClassId) (dI : Nat → Nat → Nat) (cI cZ cII cIII : ClassId) (h0 sz : Nat) (μ : va_M) (pp : Int) (Wk : Rw) (hQ : RQ μ) (hp : inR pp) (hTW : TR μ 0 Wk) (hWw : rWF Wk) (hWn : rN Wk ≤ 900) (hA : AL (kR μ) Wk) (htk9 : 0 ≤ pp ∧ pp < μ 0 10 → ∀ c : Nat, c < (μ 15 pp.toNat).toNat → 0 ≤ μ (7 + pp.toNat) c ∧ μ (7 + pp.toNat) c < 200) : Met l yX10_cuts (Cond.code yX10_cuts cX10_cuts 8 (some .int) :: wsG) ({ frames := 5, cells := 0, slots := 0, locals := 120 } : Room) (va_Pc [.ref h0, .int (iZ (pp))] (fun U => U.heap.size = sz ∧ va_P (dC, dI) vwCl (fw (mE cI cZ cII cIII h0) h0 6325 μ) U.heap ∧ va_K (dC, dI) vwCl (mT cI cZ cII cIII) U)) (va_Qi (fun (r9 : Int32) (u : va_M × Int) => r9 = iZ u.2 ∧ (fun (u : va_M) (r : Int) => (fr PS μ u ∧ (u 0 0 = 0 ∨ u 0 0 = 1 ∨ u 0 0 = 2)) ∧ u 0 0 = cd2 (0 ≤ pp ∧ pp < μ 0 10) True ∧ (cd2 (0 ≤ pp ∧ pp < μ 0 10) True = 0 → cuR Wk (fun c => cdR μ (μ (7 + pp.toNat) c)) (μ 15 pp.toNat).toNat r)) u.1 u.2) (fun u t => va_P (dC, dI) vwCl (fw (mE cI cZ cII cIII h0) h0 6325 u.1) t.heap ∧ va_K (dC, dI) vwCl (mT cI cZ cII cIII) t) (fA h0 6325 sz)) 0 0 (fA h0 6325 sz) := by
  refine Met.ofW (cc := cX10_cuts) (maxL := 8) (ret := (some .int)) (by decide) rfl ?_
  intro p e s m args below meth c s₁ B hml hv
  obtain ⟨rfl, hsz, hP, hK⟩ := hv
  have hx := B.exec
  have hb := B.bytes
  have hr := B.returns
  have hts : ∀ w ∈ wsG, w.before _ s = true := hG_of (atoms_spec (ws := (Cond.code yX10_cuts cX10_cuts 8 (some .int) :: wsG)) B.pre)
  have hown : s.vm.findClass RX10 = some m.cls := findClass_of_methodNamed B.named
  have hlocks := B.notSynchronized
  subst hsz
  have hS : va_S (fA h0 6325 s.heap.size) s.heap s.heap [] := va_S.rf
  have hl := lv_entry ([.ref h0, .int (iZ (pp))]) (n := 8) (Nat.le_of_ble_eq_true rfl)
  rw [lg_entry_eq]
  generalize (lg_sl ([.ref h0, .int (iZ (pp))]) ++ List.replicate (8 - (lg_sl ([.ref h0, .int (iZ (pp))])).length) Slot.unset).toArray = ls at hl ⊢
  have hl : lv_has ls 8 [(0, .ref h0), (1, .int (iZ (pp)))] := hl
  refine lv_aload_n hx hb dX10_cuts_0 rfl (lv_at hl 0 rfl) ?_
  refine lv_iconst (v := iZ 0) hx hb dX10_cuts_1 rfl ?_
  refine fz_put (D := (dC, dI)) (ci := 10) (ty := .int) (z := 0) (C := RX10) (T := TX10) (N := 53) hx hb hts inG10 tyX10 tyX10_ok nmX10 hown hK hP fA_in hS (k := 0) (by decide) (F := mF h0) mE_obj rfl 0 (by decide) (hts _ k1166) (fun _ h9 => h9) rfl (by decide +kernel) rfl rfl (fun _ => Nat.le_of_ble_eq_true rfl) (fun _ _ => rfl) dX10_cuts_2 (fun H locs hP hS => ?_)
  obtain ⟨μ33, eμ33⟩ : ∃ x : va_M, x = uz μ 0 0 (0) := ⟨_, rfl⟩
  rw [← eμ33] at hP
  have hfr : fr PS μ μ33 := by rw [eμ33]; exact fr_uz fr_rfl (by unfold PS; omega)
  have ht0 : μ33 0 0 = 0 := by rw [eμ33, uz_s]
  have e10 := hfr 0 10 (PS_n (by omega))
  have e9 := hfr 0 9 (PS_n (by omega))
  have e71 := hfr 719 0 (PS_n (by omega))
  have hQ1 := RQ_fr hQ hfr
  have hQc := hQ
  obtain ⟨f10, ⟨fT, fTb, fTw⟩, fS3, fPg, fw9, fwB, fwT⟩ := hQc
  obtain ⟨g10, ⟨gT, gTb, gTw⟩, gS3, gPg, gw, gwB, gwT⟩ := hQ1
  have gtk := TR_tok gwT gwB.1 gwB.2.1
  have gt1 := gtk.1
  have gt2 := gtk.2.1
  refine lv_aload_n hx hb dX10_cuts_5 rfl (lv_at hl 0 rfl) ?_
  refine lv_aload_n hx hb dX10_cuts_6 rfl (lv_at hl 0 rfl) ?_
  refine lv_iload_n hx hb dX10_cuts_7 rfl (lv_at hl 1 rfl) ?_
  refine va_calli (va_runV (As := [.int (iZ (pp))]) (rest := [.ref h0]) ⟨hx, hb, hml, hown, hts⟩ (m_isPage l dC dI cI cZ cII cIII h0 H.size μ33 (pp) (by first | assumption | omega | exact ⟨by omega, by omega⟩) (by first | assumption | omega | exact ⟨by omega, by omega⟩)) (cwV 1 hts (gV_G k1588 k1590 ks_yX10_isPage k13 k1591) rfl rfl rfl (by decide +kernel) ⟨Nat.le_of_ble_eq_true rfl, Nat.le_of_ble_eq_true rfl⟩) ⟨fun a U g mk q => by obtain ⟨q0, q1, qP, qK⟩ := q; exact ⟨q0, q1, qP, va_K.moved (u := U) (U := U.calling g mk a) (Vm.Alike.refl U.vm) qK⟩, va_recv hK hP (ci := 10) (q0 := 0) rfl ((fw_get (by decide)).trans (by rw [mE_obj]; rfl)), fun U hU hW => ⟨rfl, by rw [hU], by rw [hU]; exact hP, va_K.moved hW.alike hK⟩⟩ rfl rfl hl.1 rfl (lv_room (Nat.le_of_ble_eq_true rfl)) dX10_cuts_8 ⟨Nat.le_of_ble_eq_true rfl, Nat.le_of_ble_eq_true rfl⟩) hS (fun q _ h => fA_le hS.1 q h) (fA_le hS.1) (fun r9 u9 t9 H1 locs ht9 hvm9 hw9 hB9 hz9 hk9 hS => ?_)
  obtain ⟨μ34, r35⟩ := u9
  obtain ⟨hP, -⟩ := hB9
  rw [ht9] at hP
  generalize H1 = H at hP hS ⊢
  obtain ⟨e9, hw9⟩ := hw9
  have e9 : r9 = iZ r35 := e9
  subst e9
  simp only at hP hw9
  have hμ34 := hw9; clear hw9
  rw [hμ34.1] at hP; have hμ34 := hμ34.2
  have hip := hμ34
  have hip2 := if_01 hμ34
  refine fz_if_ne (tgt := 18) (by constructor <;> omega) hx hb dX10_cuts_11 (by decide) (fun c11_ => ?_) (fun c11_ => ?_)
  · have hpp := if_get hip (by omega)
    refine lv_iconst (v := iZ 0) hx hb dX10_cuts_18 rfl ?_
    refine lv_iconst (v := iZ 1) hx hb dX10_cuts_19 rfl ?_
    refine lv_iconst (v := iZ 0) hx hb dX10_cuts_20 rfl ?_
    refine va_calli (va_runV (As := [.int (iZ (0)), .int (iZ (1)), .int (iZ (0))]) (rest := []) ⟨hx, hb, hml, hown, hts⟩ (m_bad2 l dC dI cI cZ cII cIII h0 H.size μ33 (0) (1) (0) (by first | assumption | omega | exact ⟨by omega, by omega⟩) (by first | assumption | omega | exact ⟨by omega, by omega⟩) (by first | assumption | omega | exact ⟨by omega, by omega⟩) (by first | assumption | omega | exact ⟨by omega, by omega⟩)) (cwV 3 hts (gV_G k1342 k1344 ks_yX10_bad k13 k1345) rfl rfl rfl (by decide +kernel) ⟨Nat.le_of_ble_eq_true rfl, Nat.le_of_ble_eq_true rfl⟩) ⟨fun a U g mk q => by obtain ⟨q0, q1, qP, qK⟩ := q; exact ⟨q0, q1, qP, va_K.moved (u := U) (U := U.calling g mk a) (Vm.Alike.refl U.vm) qK⟩, va_recv hK hP (ci := 10) (q0 := 0) rfl ((fw_get (by decide)).trans (by rw [mE_obj]; rfl)), fun U hU hW => ⟨rfl, by rw [hU], by rw [hU]; exact hP, va_K.moved hW.alike hK⟩⟩ rfl rfl hl.1 rfl (lv_room (Nat.le_of_ble_eq_true rfl)) dX10_cuts_21 ⟨Nat.le_of_ble_eq_true rfl, Nat.le_of_ble_eq_true rfl⟩) hS (fun q _ h => fA_le hS.1 q h) (fA_le hS.1) (fun r9 u9 t9 H1 locs ht9 hvm9 hw9 hB9 hz9 hk9 hS => ?_)
    obtain ⟨μ36, r37⟩ := u9
    obtain ⟨hP, -⟩ := hB9
    rw [ht9] at hP
    generalize H1 = H at hP hS ⊢
    obtain ⟨e9, hw9⟩ := hw9
    have e9 : r9 = iZ r37 := e9
    subst e9
    simp only at hP hw9
    have hμ36 := hw9; clear hw9
    have hfr := fr_trans hfr (badP_fr hμ36)
    have hrb := badP_r hμ36
    obtain rfl : r37 = 0 := by omega
    refine fz_if_eq (tgt := 29) (by decide) hx hb dX10_cuts_24 (by decide) (fun c24_ => ?_) (fun h9 => absurd h9 (by decide))
    have hQ2 := RQ_fr hQ hfr
    obtain ⟨k10, ⟨kT, kTb, kTw⟩, kS3, kPg, kw, kwB, kwT⟩ := hQ2
    have e10k := hfr 0 10 (PS_n (by omega))
    have e9k := hfr 0 9 (PS_n (by omega))
    have e71k := hfr 719 0 (PS_n (by omega))
    have ktk := TR_tok kwT kwB.1 kwB.2.1
    have kt1 := ktk.1
    have kt2 := ktk.2.1
    obtain ⟨p1, p2, p3, pw, pw1, pw2, pw3⟩ := kPg pp.toNat (by omega)
    have kT1 := kTb.1
    have kT2 := kTb.2.1
    have tW_ := TR_PS hTW hfr (by omega)
    refine lv_aload_n hx hb dX10_cuts_29 rfl (lv_at hl 0 rfl) ?_
    refine va_callv (va_runV (As := []) (rest := []) ⟨hx, hb, hml, hown, hts⟩ (m_laysStates l dC dI cI cZ cII cIII h0 H.size μ36 (Wk) (by exact tW_) (by exact hWw) (by exact hWn)) (cwV 0 hts (gV_G k1508 k1510 ks_yX10_laysStates k13 k1511) rfl rfl rfl (by decide +kernel) ⟨Nat.le_of_ble_eq_true rfl, Nat.le_of_ble_eq_true rfl⟩) ⟨fun a U g mk q => by obtain ⟨q0, q1, qP, qK⟩ := q; exact ⟨q0, q1, qP, va_K.moved (u := U) (U := U.calling g mk a) (Vm.Alike.refl U.vm) qK⟩, va_recv hK hP (ci := 10) (q0 := 0) rfl ((fw_get (by decide)).trans (by rw [mE_obj]; rfl)), fun U hU hW => ⟨rfl, by rw [hU], by rw [hU]; exact hP, va_K.moved hW.alike hK⟩⟩ rfl rfl hl.1 rfl (lv_room (Nat.le_of_ble_eq_true rfl)) dX10_cuts_30 ⟨Nat.le_of_ble_eq_true rfl, Nat.le_of_ble_eq_true rfl⟩) hS (fun q _ h => fA_le hS.1 q h) (fA_le hS.1) (fun u9 t9 H1 locs ht9 hvm9 hw9 hB9 hz9 hk9 hS => ?_)
    obtain ⟨hP, -⟩ := hB9
    rw [ht9] at hP
    generalize H1 = H at hP hS ⊢
    obtain ⟨μa, eμa⟩ : ∃ x : va_M, x = u9 := ⟨_, rfl⟩
    rw [← eμa] at hP hw9
    have hμa := hw9; clear hw9
    obtain ⟨s1, s2, s3⟩ := hμa
    have hTa : TR μa 0 Wk := TR_fr tW_ s1 (fun x => by unfold SF; omega) (by unfold SF; omega)
    have hOa := stOK_of hTa hWw hWn s2 s3
    have s15 := s1 15 pp.toNat (by unfold SF; omega)
    have oa1 := hOa.1
    refine lv_aload_n hx hb dX10_cuts_33 rfl (lv_at hl 0 rfl) ?_
    refine fz_get (D := (dC, dI)) (ci := 10) (v := .ref (h0 + 15)) (C := RX10) (T := TX10) (N := 53) hx hb hts inG10 hown hK hP (k := 0) (by decide) (F := mF h0) mE_obj rfl 15 (by decide) (hts _ k1181) (fun _ h9 => h9) rfl dX10_cuts_34 ?_
    refine lv_iload_n hx hb dX10_cuts_37 rfl (lv_at hl 1 rfl) ?_
    refine fz_ld (k := 15) (n := 8) hx hb hK hP 0 (by decide) mE_pageLong rfl ⟨by omega, by omega⟩ (by decide) dX10_cuts_38 ?_
    refine lv_istore_n (lv' := [(2, .int (iZ (μa 15 (pp).toNat))), (0, .ref h0), (1, .int (iZ (pp)))]) hx hb dX10_cuts_39 rfl hl (by decide) rfl (fun ls hl => ?_)
    refine lv_iload_n hx hb dX10_cuts_40 rfl (lv_at hl 0 rfl) ?_
    refine lv_istore_n (lv' := [(3, .int (iZ (μa 15 (pp).toNat))), (2, .int (iZ (μa 15 (pp).toNat))), (0, .ref h0), (1, .int (iZ (pp)))]) hx hb dX10_cuts_41 rfl hl (by decide) rfl (fun ls hl => ?_)
    refine LX10_cuts_42b hx hb hml hown hts hK (Nat.le_of_ble_eq_true rfl) (Nat.le_of_ble_eq_true rfl) (Nat.le_of_ble_eq_true rfl) (Nat.le_of_ble_eq_true rfl) (μa) (pp) (μa 15 pp.toNat) (by exact hOa) (by omega) (by omega) (by intro j hj; rw [s1 _ _ (by unfold SF; omega)]; exact kS3 j hj) (by intro k hk; rw [s1 _ _ (by unfold SF; omega)]; have := p3 k (by omega); omega) ?_ _ (μa 15 (pp).toNat) μa H locs ls (by omega) (by exact fr_rfl) (by intro c h1 h2; omega) (Nat.lt_succ_self _) hP hS (lv_sub hl [0, 1, 3, 2] rfl)
    · intro pos_38 μ38_ H locs ls q7_38 q8_38 hP hS hl
      have hl : lv_has ls 8 [(0, .ref h0)] := hl
      have cz := (q8_38 0 (by omega)).1 0 (by have h9 := q7_38 0 39 (by unfold CF; omega); omega)
      have cz : 0 ≤ μ38_ (4416 + 0) 0 ∧ μ38_ (4416 + 0) 0 ≤ 1000000 := cz
      refine lv_aload_n hx hb dX10_cuts_255 rfl (lv_at hl 0 rfl) ?_
      refine fz_get (D := (dC, dI)) (ci := 10) (v := .ref (h0 + 4415)) (C := RX10) (T := TX10) (N := 53) hx hb hts inG10 hown hK hP (k := 0) (by decide) (F := mF h0) mE_obj rfl 43 (by decide) (hts _ k1209) (fun _ h9 => h9) rfl dX10_cuts_256 ?_
      refine lv_iconst (v := iZ 0) hx hb dX10_cuts_259 rfl ?_
      refine fz_ald (k := 4415) (n := 1900) (k2 := (4416 + 0)) hx hb hK hP 2 rfl (by decide) mE_can rfl ⟨by omega, by omega⟩ (by decide) (if_pos (by omega)) dX10_cuts_260 ?_
      refine lv_iconst (v := iZ 0) hx hb dX10_cuts_261 rfl ?_
      refine fz_ld (k := (4416 + 0)) (n := 62) hx hb hK hP 0 (by omega) (mE_canR (by omega)) rfl ⟨by omega, by omega⟩ (by decide) dX10_cuts_262 ?_
      rw [show (0 : Int).toNat = 0 from rfl]
      refine lv_ldc (v := iZ 1000000) hx hb hown (hts _ k1551) dX10_cuts_263 ?_
      refine fz_icmp_lt (tgt := 272) (by constructor <;> omega) (by decide) hx hb dX10_cuts_265 (by decide) (fun c265_ => ?_) (fun c265_ => ?_)
      · refine lv_aload_n hx hb dX10_cuts_272 rfl (lv_at hl 0 rfl) ?_
        refine fz_get (D := (dC, dI)) (ci := 10) (v := .ref (h0 + 4415)) (C := RX10) (T := TX10) (N := 53) hx hb hts inG10 hown hK hP (k := 0) (by decide) (F := mF h0) mE_obj rfl 43 (by decide) (hts _ k1209) (fun _ h9 => h9) rfl dX10_cuts_273 ?_
        refine lv_iconst (v := iZ 0) hx hb dX10_cuts_276 rfl ?_
        refine fz_ald (k := 4415) (n := 1900) (k2 := (4416 + 0)) hx hb hK hP 2 rfl (by decide) mE_can rfl ⟨by omega, by omega⟩ (by decide) (if_pos (by omega)) dX10_cuts_277 ?_
        refine lv_iconst (v := iZ 0) hx hb dX10_cuts_278 rfl ?_
        refine fz_ld (k := (4416 + 0)) (n := 62) hx hb hK hP 0 (by omega) (mE_canR (by omega)) rfl ⟨by omega, by omega⟩ (by decide) dX10_cuts_279 ?_
        rw [show (0 : Int).toNat = 0 from rfl]
        exact W.iret (v := iZ (μ38_ (4416 + 0) 0)) hx hb hr (fun t9 ht9 hW9 => ⟨⟨iZ (μ38_ (4416 + 0) 0), (μ38_, μ38_ (4416 + 0) 0), rfl, ⟨rfl, (by
                        dsimp only
                        have cd9 : cd2 (0 ≤ pp ∧ pp < μ 0 10) True = 0 := cd2_0 (by omega) trivial
                        have hc7 := q7_38
                        have ff := fr_trans (fr_mono s1 (fun _ _ h => SF_PS h)) (fr_mono hc7 (fun x y h => SW_PS (Or.inr h)))
                        have f9 := fr_trans hfr ff
                        have e00 := (hc7 0 0 (by unfold CF; omega)).trans (s1 0 0 (by unfold SF; omega))
                        have hTb := TR_fr hTa hc7 (fun x => by unfold CF; omega) (by unfold CF; omega)
                        have hsb := RS_fr Wk 0 0 s3 (fun x => ⟨hc7 _ _ (by unfold CF; omega), hc7 _ _ (by unfold CF; omega), hc7 _ _ (by unfold CF; omega)⟩)
                        have f3 : ∀ j, μ38_ 3 j = μ 3 j := fun j => f9 3 j (PS_n (by omega))
                        have f7 : ∀ j, μ38_ (7 + pp.toNat) j = μ (7 + pp.toNat) j := fun j => f9 _ j (PS_n (by omega))
                        have f15 : μ38_ 15 pp.toNat = μ 15 pp.toNat := f9 _ _ (PS_n (by omega))
                        have f09 : μ38_ 0 9 = μ 0 9 := f9 _ _ (PS_n (by omega))
                        have hA9 : AL (kR μ38_) Wk := AL_mono (fun k v h => by unfold kR at h ⊢; rw [f3, f09]; exact h) Wk hA
                        have x15_ := hfr 15 pp.toNat (PS_n (by omega))
                        have en : μa 15 pp.toNat = ((μ 15 pp.toNat).toNat : Int) := by omega
                        have hd9 := cu_ref (pp := pp.toNat) (n := (μ 15 pp.toNat).toNat) hTb hWw ((hc7 0 39 (by unfold CF; omega)).trans s2) hsb hA9 (fun c hc9 => by rw [f7]; exact htk9 ⟨by omega, by omega⟩ c hc9) (fun c hc9 => by rw [← en]; exact (q8_38) c (by omega))
                        rw [show (fun c => cdR μ38_ (μ38_ (7 + pp.toNat) c)) = (fun c => cdR μ (μ (7 + pp.toNat) c)) from funext fun c => by unfold cdR; rw [f7, f3]] at hd9
                        refine ⟨⟨f9, by omega⟩, by omega, fun _ => ?_⟩
                        rw [if_neg (by omega)] at hd9
                        exact hd9)⟩, by rw [ht9]; exact hP, va_K.moved hW9.alike hK⟩, hS.F ht9⟩) hS.2.2 dX10_cuts_280
      · refine lv_iconst (v := iZ (-1)) hx hb dX10_cuts_268 rfl ?_
        refine lv_goto (tgt := 280) hx hb dX10_cuts_269 (by decide) ?_
        exact W.iret (v := iZ ((-1))) hx hb hr (fun t9 ht9 hW9 => ⟨⟨iZ ((-1)), (μ38_, (-1)), rfl, ⟨rfl, (by
                        dsimp only
                        have cd9 : cd2 (0 ≤ pp ∧ pp < μ 0 10) True = 0 := cd2_0 (by omega) trivial
                        have hc7 := q7_38
                        have ff := fr_trans (fr_mono s1 (fun _ _ h => SF_PS h)) (fr_mono hc7 (fun x y h => SW_PS (Or.inr h)))
                        have f9 := fr_trans hfr ff
                        have e00 := (hc7 0 0 (by unfold CF; omega)).trans (s1 0 0 (by unfold SF; omega))
                        have hTb := TR_fr hTa hc7 (fun x => by unfold CF; omega) (by unfold CF; omega)
                        have hsb := RS_fr Wk 0 0 s3 (fun x => ⟨hc7 _ _ (by unfold CF; omega), hc7 _ _ (by unfold CF; omega), hc7 _ _ (by unfold CF; omega)⟩)
                        have f3 : ∀ j, μ38_ 3 j = μ 3 j := fun j => f9 3 j (PS_n (by omega))
                        have f7 : ∀ j, μ38_ (7 + pp.toNat) j = μ (7 + pp.toNat) j := fun j => f9 _ j (PS_n (by omega))
                        have f15 : μ38_ 15 pp.toNat = μ 15 pp.toNat := f9 _ _ (PS_n (by omega))
                        have f09 : μ38_ 0 9 = μ 0 9 := f9 _ _ (PS_n (by omega))
                        have hA9 : AL (kR μ38_) Wk := AL_mono (fun k v h => by unfold kR at h ⊢; rw [f3, f09]; exact h) Wk hA
                        have x15_ := hfr 15 pp.toNat (PS_n (by omega))
                        have en : μa 15 pp.toNat = ((μ 15 pp.toNat).toNat : Int) := by omega
                        have hd9 := cu_ref (pp := pp.toNat) (n := (μ 15 pp.toNat).toNat) hTb hWw ((hc7 0 39 (by unfold CF; omega)).trans s2) hsb hA9 (fun c hc9 => by rw [f7]; exact htk9 ⟨by omega, by omega⟩ c hc9) (fun c hc9 => by rw [← en]; exact (q8_38) c (by omega))
                        rw [show (fun c => cdR μ38_ (μ38_ (7 + pp.toNat) c)) = (fun c => cdR μ (μ (7 + pp.toNat) c)) from funext fun c => by unfold cdR; rw [f7, f3]] at hd9
                        refine ⟨⟨f9, by omega⟩, by omega, fun _ => ?_⟩
                        rw [if_pos (by omega)] at hd9
                        exact hd9)⟩, by rw [ht9]; exact hP, va_K.moved hW9.alike hK⟩, hS.F ht9⟩) hS.2.2 dX10_cuts_280
  · have hpn := if_not hip (by omega)
    refine lv_iconst (v := iZ 1) hx hb dX10_cuts_14 rfl ?_
    refine lv_goto (tgt := 19) hx hb dX10_cuts_15 (by decide) ?_
    refine lv_iconst (v := iZ 1) hx hb dX10_cuts_19 rfl ?_
    refine lv_iconst (v := iZ 0) hx hb dX10_cuts_20 rfl ?_
    refine va_calli (va_runV (As := [.int (iZ (1)), .int (iZ (1)), .int (iZ (0))]) (rest := []) ⟨hx, hb, hml, hown, hts⟩ (m_bad2 l dC dI cI cZ cII cIII h0 H.size μ33 (1) (1) (0) (by first | assumption | omega | exact ⟨by omega, by omega⟩) (by first | assumption | omega | exact ⟨by omega, by omega⟩) (by first | assumption | omega | exact ⟨by omega, by omega⟩) (by first | assumption | omega | exact ⟨by omega, by omega⟩)) (cwV 3 hts (gV_G k1342 k1344 ks_yX10_bad k13 k1345) rfl rfl rfl (by decide +kernel) ⟨Nat.le_of_ble_eq_true rfl, Nat.le_of_ble_eq_true rfl⟩) ⟨fun a U g mk q => by obtain ⟨q0, q1, qP, qK⟩ := q; exact ⟨q0, q1, qP, va_K.moved (u := U) (U := U.calling g mk a) (Vm.Alike.refl U.vm) qK⟩, va_recv hK hP (ci := 10) (q0 := 0) rfl ((fw_get (by decide)).trans (by rw [mE_obj]; rfl)), fun U hU hW => ⟨rfl, by rw [hU], by rw [hU]; exact hP, va_K.moved hW.alike hK⟩⟩ rfl rfl hl.1 rfl (lv_room (Nat.le_of_ble_eq_true rfl)) dX10_cuts_21 ⟨Nat.le_of_ble_eq_true rfl, Nat.le_of_ble_eq_true rfl⟩) hS (fun q _ h => fA_le hS.1 q h) (fA_le hS.1) (fun r9 u9 t9 H1 locs ht9 hvm9 hw9 hB9 hz9 hk9 hS => ?_)
    obtain ⟨μ39, r40⟩ := u9
    obtain ⟨hP, -⟩ := hB9
    rw [ht9] at hP
    generalize H1 = H at hP hS ⊢
    obtain ⟨e9, hw9⟩ := hw9
    have e9 : r9 = iZ r40 := e9
    subst e9
    simp only at hP hw9
    have hμ39 := hw9; clear hw9
    have hfr := fr_trans hfr (badP_fr hμ39)
    have hrb := badP_r hμ39
    obtain rfl : r40 = 1 := by omega
    refine fz_if_eq (tgt := 29) (by decide) hx hb dX10_cuts_24 (by decide) (fun h9 => absurd h9 (by decide)) (fun c24_ => ?_)
    refine lv_iconst (v := iZ 0) hx hb dX10_cuts_27 rfl ?_
    exact W.iret (v := iZ (0)) hx hb hr (fun t9 ht9 hW9 => ⟨⟨iZ (0), (μ39, 0), rfl, ⟨rfl, (by
                dsimp only
                have cd9 : cd2 (0 ≤ pp ∧ pp < μ 0 10) True = 1 := cd2_1 (by omega)
                exact ⟨⟨hfr, by omega⟩, by omega, fun hc => absurd (cd9.symm.trans hc) (by decide)⟩)⟩, by rw [ht9]; exact hP, va_K.moved hW9.alike hK⟩, hS.F ht9⟩) hS.2.2 dX10_cuts_28

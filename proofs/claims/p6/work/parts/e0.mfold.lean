
/-! what a fold is, told once for both sides; the reference folds once -/
/-- so many items from a place on, and as many behind them, alike one by one, one of them firm -/
def fo1 (w : Rw) (so a : Nat) : Prop := 1 ≤ so ∧ a + 2 * so ≤ rI w ∧ (∀ m : Nat, m < so → halk (rdrop (a + m) w) (rdrop (a + so + m) w)) ∧ ∃ m : Nat, m < so ∧ hfirm (rdrop (a + m) w)
/-- none of a lesser length, none of that length that begins ahead -/
def fno (w : Rw) (so a : Nat) : Prop := ∀ s2 a2 : Nat, (s2 < so ∨ (s2 = so ∧ a2 < a)) → ¬ fo1 w s2 a2
def fEnd (w : Rw) : Prop := ∀ so a : Nat, ¬ fo1 w so a
def fMx (w : Rw) (so a n : Nat) : Prop := rI w < a + (n + 1) * so ∨ ¬ ∀ m : Nat, m < so → halk (rdrop (a + m) w) (rdrop (a + n * so + m) w)
def fst1 (w : Rw) (so a n : Nat) : Prop := isFold w a so n ∧ fno w so a ∧ fMx w so a n
theorem fno_a {w : Rw} {so a : Nat} (h : fno w so a) (h2 : ¬ fo1 w so a) : fno w so (a + 1) := fun s2 a2 h3 => by
  by_cases h4 : s2 = so ∧ a2 = a
  · obtain ⟨rfl, rfl⟩ := h4; exact h2
  · exact h s2 a2 (by omega)
theorem fno_s {w : Rw} {so a : Nat} (h : fno w so a) (h2 : rI w < a + 2 * so) : fno w (so + 1) 0 := fun s2 a2 h3 h4 => by
  by_cases h5 : s2 < so ∨ (s2 = so ∧ a2 < a)
  · exact h s2 a2 h5 h4
  · have h6 : s2 = so := by omega
    subst h6
    have := h4.2.1
    omega
theorem fno_1 {w : Rw} : fno w 1 0 := fun s2 a2 h3 h4 => by have := h4.1; omega
theorem fno_end {w : Rw} {so : Nat} (h : fno w so 0) (h2 : rI w < 2 * so) : fEnd w := fun s2 a2 h4 => by
  by_cases h5 : s2 < so
  · exact h s2 a2 (Or.inl h5) h4
  · have := h4.2.1
    omega
theorem isFold_o {w : Rw} {so a n : Nat} (h : isFold w a so n) : fo1 w so a := by
  obtain ⟨h1, h2, h3, h4, m, h5, h6⟩ := h
  have h7 : 2 * so ≤ n * so := Nat.mul_le_mul_right so h2
  exact ⟨h1, by omega, fun m hm => by have := h4 1 m (Nat.le_refl _) (by omega) hm; rw [Nat.one_mul] at this; exact this, m, h5, h6⟩
theorem fst1_u {w : Rw} {so a n so2 a2 n2 : Nat} (h : fst1 w so a n) (h2 : fst1 w so2 a2 n2) : so = so2 ∧ a = a2 ∧ n = n2 := by
  obtain ⟨f1, f2, f3⟩ := h
  obtain ⟨g1, g2, g3⟩ := h2
  have o1 := isFold_o f1
  have o2 := isFold_o g1
  have e : so = so2 ∧ a = a2 := by
    by_cases c1 : so < so2 ∨ (so = so2 ∧ a < a2)
    · exact absurd o1 (g2 _ _ c1)
    · by_cases c2 : so2 < so ∨ (so2 = so ∧ a2 < a)
      · exact absurd o2 (f2 _ _ c2)
      · omega
  obtain ⟨rfl, rfl⟩ := e
  have key : ∀ n n2 : Nat, fMx w so a n → isFold w a so n → isFold w a so n2 → ¬ n < n2 := fun n n2 q1 q0 q2 hlt => by
    have h9 : (n + 1) * so ≤ n2 * so := Nat.mul_le_mul_right so hlt
    have := q2.2.2.1
    have := q0.2.1
    rcases q1 with q1 | q1
    · omega
    · exact q1 (fun m hm => q2.2.2.2.1 n m (by omega) hlt hm)
  have k1 := key n n2 f3 f1 g1
  have k2 := key n2 n g3 g1 f1
  exact ⟨rfl, rfl, by omega⟩
/-- a row's folds, one after the other -/
def fSt : List (Nat × Nat × Nat) → Rw → Rw → Prop
  | [], w, x => x = w
  | s :: t, w, x => fst1 w s.1 s.2.1 s.2.2 ∧ fSt t (rput w s.2.1 s.1 s.2.2) x
theorem fSt_app : ∀ (t : List (Nat × Nat × Nat)) (w x : Rw) (s : Nat × Nat × Nat), fSt t w x → fst1 x s.1 s.2.1 s.2.2 → fSt (t ++ [s]) w (rput x s.2.1 s.1 s.2.2)
  | [], w, x, s, h, h2 => by
    have h : x = w := h
    subst h
    exact ⟨h2, rfl⟩
  | s0 :: t, w, x, s, ⟨h1, h2⟩, h3 => ⟨h1, fSt_app t _ x s h2 h3⟩
theorem fSt_u : ∀ (t t2 : List (Nat × Nat × Nat)) (w x x2 : Rw), fSt t w x → fEnd x → fSt t2 w x2 → fEnd x2 → t = t2 ∧ x = x2
  | [], [], w, x, x2, h, _, h2, _ => ⟨rfl, (show x = w from h).trans (show x2 = w from h2).symm⟩
  | [], s :: t, w, x, x2, h, he, ⟨h2, _⟩, _ => by
    have h : x = w := h
    subst h
    exact absurd (isFold_o h2.1) (he _ _)
  | s :: t, [], w, x, x2, ⟨h, _⟩, _, h2, he => by
    have h2 : x2 = w := h2
    subst h2
    exact absurd (isFold_o h.1) (he _ _)
  | (so, a, n) :: t, (so2, a2, n2) :: t2, w, x, x2, ⟨h1, h2⟩, he, ⟨g1, g2⟩, ge => by
    obtain ⟨e1, e2, e3⟩ := fst1_u h1 g1
    have e1 : so = so2 := e1
    have e2 : a = a2 := e2
    have e3 : n = n2 := e3
    subst e1 e2 e3
    obtain ⟨k1, k2⟩ := fSt_u t t2 _ x x2 h2 he g2 ge
    exact ⟨by rw [k1], k2⟩
set_option maxHeartbeats 40000000 in
set_option maxRecDepth 100000 in
theorem LX10_foldsOne_40z {p : Program} {l : Launch} {e : Env} {R : Room} {s : State} {m : MethodId} {args : Array Value} {below : List Frame} {meth : Method} {c : Code} {cells slots : Nat} {Q : State → Prop} {dC : Nat → ClassId} {dI : Nat → Nat → Nat} {h0 : Nat} {cI cZ cII cIII : ClassId} (hx : p.tables.exec = Jvm.exec) (hb : c.code = cX10_foldsOne) (hml : c.maxLocals = 7) (hown : s.vm.findClass RX10 = some m.cls) (hts : ∀ w ∈ wsG, w.before args s = true) (hK : va_K (dC, dI) vwCl (mT cI cZ cII cIII) s) (hRf : 25 ≤ R.frames) (hRl : 800 ≤ R.locals) (hRc : cells ≤ R.cells) (hRs : slots ≤ R.slots) (μ0 : va_M) (t : Int) (q : Nat) (m9 : Int) (w : Rw) (n1 : Int) (ht : 0 ≤ t ∧ t < 70) (hq : (723 ≤ q ∧ q < 737) ∨ (738 ≤ q ∧ q < 752)) (hR : RA μ0 t.toNat w 0) (hN : rN w ≤ 900) (hwf : rWF w) (hHH : rH w ≤ 20) (hrow : rowIs μ0 q w 0) (h260 : rI w ≤ 260) (hm9 : m9 = rI w) (ht3 : t ≠ 50 ∧ t ≠ 51 ∧ t ≠ 52) (hnod : μ0 719 t.toNat = rN w) (hs1 : 1 ≤ n1 ∧ n1 ≤ 260) (hno2 : 2 ≤ n1 → noF w (rI w)) (hfo2 : fno w n1.toNat 0) (hexit154 : ∀ (a : Int) (μ : va_M) (H : Heap) (locs : List Loc) (ls : Array Slot), (∃ a1 s1 c1 : Nat, isFold w a1 s1 c1 ∧ TR μ t.toNat (rput w a1 s1 c1) ∧ fr (FP t.toNat) μ0 μ ∧ fEx w a1 s1 c1 ∧ fst1 w s1 a1 c1 ∧ μ 752 0 = s1 ∧ μ 752 1 = a1 ∧ μ 752 2 = c1) → va_P (dC, dI) vwCl (fw (mE cI cZ cII cIII h0) h0 6325 μ) H → va_S (fA h0 6325 s.heap.size) s.heap H locs → lv_has ls 7 [] → W p l e R s m args below meth c H locs cells slots Q (F0 m 154 ls [])) (hexit162 : ∀ (a : Int) (μ : va_M) (H : Heap) (locs : List Loc) (ls : Array Slot), (μ = μ0) → (n1 = 1 → noF w (rI w)) → (fno w n1.toNat a.toNat ∧ m9 < a + 2 * n1 ∧ 0 ≤ a) → va_P (dC, dI) vwCl (fw (mE cI cZ cII cIII h0) h0 6325 μ) H → va_S (fA h0 6325 s.heap.size) s.heap H locs → lv_has ls 7 [(4, .int (iZ (n1))), (3, .ref (h0 + q)), (2, .int (iZ (m9))), (1, .int (iZ (t))), (0, .ref h0)] → W p l e R s m args below meth c H locs cells slots Q (F0 m 162 ls [])) :
    ∀ (n9 : Nat) (a : Int) (μ : va_M) (H : Heap) (locs : List Loc) (ls : Array Slot), (μ = μ0) → (0 ≤ a ∧ a ≤ 300) → (n1 = 1 → noF w a.toNat) → (fno w n1.toNat a.toNat) → (400 - a).toNat < n9 → va_P (dC, dI) vwCl (fw (mE cI cZ cII cIII h0) h0 6325 μ) H → va_S (fA h0 6325 s.heap.size) s.heap H locs → lv_has ls 7 [(5, .int (iZ (a))), (4, .int (iZ (n1))), (3, .ref (h0 + q)), (2, .int (iZ (m9))), (1, .int (iZ (t))), (0, .ref h0)] → W p l e R s m args below meth c H locs cells slots Q (F0 m 40 ls []) := by
  intro n9
  induction n9 with
  | zero => intro a μ H locs ls hm ha0 hno hfo hm9 hP hS hl; exact absurd hm9 (Nat.not_lt_zero _)
  | succ n9 ih =>
    intro a μ H locs ls hm ha0 hno hfo hm9 hP hS hl
    subst hm
    refine lv_iload hx hb dX10_foldsOne_40 (lv_at hl 0 rfl) ?_
    refine lv_iconst (v := iZ 2) hx hb dX10_foldsOne_42 rfl ?_
    refine lv_iload hx hb dX10_foldsOne_43 (lv_at hl 1 rfl) ?_
    refine lv_imul hx hb dX10_foldsOne_45 ?_
    refine lv_topi (fun x9 ex9 => ?_)
    obtain rfl : x9 = iZ (2 * n1) := ex9.trans (iZ_mul _ _)
    refine lv_iadd hx hb dX10_foldsOne_46 ?_
    refine lv_topi (fun x9 ex9 => ?_)
    obtain rfl : x9 = iZ (a + (2 * n1)) := ex9.trans (iZ_add _ _)
    refine lv_iload_n hx hb dX10_foldsOne_47 rfl (lv_at hl 3 rfl) ?_
    refine fz_icmp_gt (tgt := 162) (by constructor <;> omega) (by constructor <;> omega) hx hb dX10_foldsOne_48 (by decide) (fun c48_ => ?_) (fun c48_ => ?_)
    · exact hexit162 (a) μ H locs ls (by rfl) (by
                    intro h1 x _ hx2 hf
                    exact hno h1 x (by omega) hx2 hf) (by exact ⟨hfo, by omega, ha0.1⟩) hP hS (lv_sub hl [1, 2, 3, 4, 5] rfl)
    · refine lv_iconst (v := iZ 1) hx hb dX10_foldsOne_51 rfl ?_
      refine lv_istore (lv' := [(6, .int (iZ (1))), (5, .int (iZ (a))), (4, .int (iZ (n1))), (3, .ref (h0 + q)), (2, .int (iZ (m9))), (1, .int (iZ (t))), (0, .ref h0)]) hx hb dX10_foldsOne_52 hl (by decide) rfl (fun ls hl => ?_)
      refine LX10_foldsOne_54 hx hb hml hown hts hK hRf hRl hRc hRs (μ) (t) (q) (m9) (w) (a) (n1) (by assumption) (by assumption) (by assumption) (by assumption) (by assumption) (by assumption) (by assumption) (by assumption) (by assumption) (by omega) ?_ _ (1) μ H locs ls (by rfl) (by rw [Int.one_mul]; omega) (by
                    intro e9 m9_ h1 h2 h3
                    exact absurd h2 (by show ¬ e9 < 1; omega)) (Nat.lt_succ_self _) hP hS (lv_sub hl [0, 1, 2, 3, 4, 5, 6] rfl)
      · intro n_1 μ1_ H locs ls q1_1 q2_1 q3_1 q8_1 hP hS hl
        have hl : lv_has ls 7 [(6, .int (iZ (n_1))), (5, .int (iZ (a))), (4, .int (iZ (n1))), (3, .ref (h0 + q)), (2, .int (iZ (m9))), (1, .int (iZ (t))), (0, .ref h0)] := hl
        have hPn := hP
        obtain rfl := q1_1
        have hP := hPn
        have hp1 : n_1 * 1 ≤ n_1 * n1 := Int.mul_le_mul_of_nonneg_left (by omega) (by omega)
        rw [Int.mul_one] at hp1
        refine lv_iload hx hb dX10_foldsOne_95 (lv_at hl 0 rfl) ?_
        refine lv_iconst (v := iZ 2) hx hb dX10_foldsOne_97 rfl ?_
        refine fz_icmp_lt (tgt := 156) (by constructor <;> omega) (by decide) hx hb dX10_foldsOne_98 (by decide) (fun c98_ => ?_) (fun c98_ => ?_)
        · refine lv_iinc (v := iZ (a + 1)) (lv' := [(5, .int (iZ (a + 1))), (6, .int (iZ (n_1))), (4, .int (iZ (n1))), (3, .ref (h0 + q)), (2, .int (iZ (m9))), (1, .int (iZ (t))), (0, .ref h0)]) hx hb dX10_foldsOne_156 hl (k := 1) rfl (iZ_add _ _) (by decide) rfl (fun ls hl => ?_)
          refine lv_goto (tgt := 40) hx hb dX10_foldsOne_159 (by decide) ?_
          exact ih (a + 1) μ1_ H locs ls (by rfl) (by omega) (by
                            intro h1
                            rw [show (a + 1).toNat = a.toNat + 1 by omega]
                            first
                              | (have c9 := c111_
                                 have hnf : ∀ m : Nat, (m : Int) < n1 → ¬ hfirm (rdrop (a.toNat + m) w) := by
                                   rcases @c0 with ⟨h, _⟩ | ⟨_, h⟩
                                   · omega
                                   · exact h
                                 exact noF_S (hno h1) (fun _ h8 _ => hnf 0 (by omega) h8))
                              | (have c9 := c98_
                                 refine noF_S (hno h1) (fun _ _ h9 => ?_)
                                 have hn1 : n_1 = 1 := by omega
                                 rcases q8_1 with h | h
                                 · rw [h1, hn1] at h; omega
                                 · refine h (fun m hm => ?_)
                                   rw [h1] at hm
                                   obtain rfl : m = 0 := by omega
                                   rw [hn1, h1]
                                   show halk (rdrop a.toNat w) (rdrop (a.toNat + 1) w)
                                   exact h9)) (by
                            rw [show (a + 1).toNat = a.toNat + 1 by omega]
                            refine fno_a hfo ?_
                            rintro ⟨g1, g2, g3, m1, g4, g5⟩
                            first
                              | (have c9 := c111_
                                 rcases @c0 with ⟨h, _⟩ | ⟨_, h⟩
                                 · omega
                                 · exact h m1 (by omega) g5)
                              | (have c9 := c98_
                                 have hn1 : n_1 = 1 := by omega
                                 rcases q8_1 with h | h
                                 · rw [hn1] at h; omega
                                 · refine h (fun m hm => ?_)
                                   rw [hn1]
                                   show halk _ (rdrop (a.toNat + 1 * n1.toNat + m) w)
                                   rw [Nat.one_mul]
                                   exact g3 m hm)) (by omega) hP hS (lv_sub hl [0, 2, 3, 4, 5, 6] rfl)
        · refine lv_aload_n hx hb dX10_foldsOne_101 rfl (lv_at hl 6 rfl) ?_
          refine lv_iload_n hx hb dX10_foldsOne_102 rfl (lv_at hl 5 rfl) ?_
          refine lv_aload_n hx hb dX10_foldsOne_103 rfl (lv_at hl 3 rfl) ?_
          refine lv_iload hx hb dX10_foldsOne_104 (lv_at hl 1 rfl) ?_
          refine lv_iload hx hb dX10_foldsOne_106 (lv_at hl 2 rfl) ?_
          refine va_calli (va_runV (As := [.int (iZ (t)), .ref (h0 + q), .int (iZ (a)), .int (iZ (n1))]) (rest := []) ⟨hx, hb, hml, hown, hts⟩ (m_hasFirm l dC dI cI cZ cII cIII h0 H.size μ1_ (t) (q) (a) (n1) (w) (by first | assumption | omega | exact ⟨by omega, by omega⟩) (by first | assumption | omega | exact ⟨by omega, by omega⟩) (by first | assumption | omega | exact ⟨by omega, by omega⟩) (by first | assumption | omega | exact ⟨by omega, by omega⟩) (by first | assumption | omega | exact ⟨by omega, by omega⟩) (by first | assumption | omega | exact ⟨by omega, by omega⟩) (by first | assumption | omega | exact ⟨by omega, by omega⟩) (by first | assumption | omega | exact ⟨by omega, by omega⟩) (by omega)) (cwV 4 hts (gV_G k1404 k1406 ks_yX10_hasFirm k13 k1407) rfl rfl rfl (by decide +kernel) ⟨by show 1 + 1 ≤ _; omega, by show 8 + (6 + 11) + (14) ≤ _; omega⟩) ⟨fun a U g mk q => by obtain ⟨q0, q1, qP, qK⟩ := q; exact ⟨q0, q1, qP, va_K.moved (u := U) (U := U.calling g mk a) (Vm.Alike.refl U.vm) qK⟩, va_recv hK hP (ci := 10) (q0 := 0) rfl ((fw_get (by decide)).trans (by rw [mE_obj]; rfl)), fun U hU hW => ⟨rfl, by rw [hU], by rw [hU]; exact hP, va_K.moved hW.alike hK⟩⟩ rfl rfl hl.1 rfl (lv_room (Nat.le_of_ble_eq_true rfl)) dX10_foldsOne_108 ⟨hRc, hRs⟩) hS (fun q _ h => fA_le hS.1 q h) (fA_le hS.1) (fun r9 u9 t9 H1 locs ht9 hvm9 hw9 hB9 hz9 hk9 hS => ?_)
          obtain ⟨μ2, r3⟩ := u9
          obtain ⟨hP, -⟩ := hB9
          rw [ht9] at hP
          generalize H1 = H at hP hS ⊢
          obtain ⟨e9, hw9⟩ := hw9
          have e9 : r9 = iZ r3 := e9
          subst e9
          simp only at hP hw9
          have hμ2 := hw9; clear hw9
          rw [hμ2.1] at hP; have hμ2 := hμ2.2
          refine fz_if_ne (tgt := 117) (by constructor <;> omega) hx hb dX10_foldsOne_111 (by decide) (fun c111_ => ?_) (fun c111_ => ?_)
          · have hfm : ∃ m : Nat, (m : Int) < n1 ∧ hfirm (rdrop (a.toNat + m) w) := by
              rcases hμ2 with ⟨_, h⟩ | ⟨h, _⟩
              · exact h
              · omega
            have hqq : 723 ≤ q ∧ q < 752 := by omega
            refine lv_aload_n hx hb dX10_foldsOne_117 rfl (lv_at hl 6 rfl) ?_
            refine fz_get (D := (dC, dI)) (ci := 10) (v := .ref (h0 + 752)) (C := RX10) (T := TX10) (N := 53) hx hb hts inG10 hown hK hP (k := 0) (by decide) (F := mF h0) mE_obj rfl 31 (by decide) (hts _ k1197) (fun _ h9 => h9) rfl dX10_foldsOne_118 ?_
            refine lv_iconst (v := iZ 0) hx hb dX10_foldsOne_121 rfl ?_
            refine lv_iload hx hb dX10_foldsOne_122 (lv_at hl 2 rfl) ?_
            refine fz_st (k := 752) (n := 3) (i := 0) (z := n1) hx hb hK hP fA_in hS 0 (by decide) mE_found rfl ⟨by omega, by omega⟩ (by decide) dX10_foldsOne_124 (fun H locs hP hS => ?_)
            rw [show (0 : Int).toNat = 0 from rfl] at hP
            obtain ⟨μ4, eμ4⟩ : ∃ x : va_M, x = uz μ1_ 752 0 (n1) := ⟨_, rfl⟩
            rw [← eμ4] at hP
            refine lv_aload_n hx hb dX10_foldsOne_125 rfl (lv_at hl 6 rfl) ?_
            refine fz_get (D := (dC, dI)) (ci := 10) (v := .ref (h0 + 752)) (C := RX10) (T := TX10) (N := 53) hx hb hts inG10 hown hK hP (k := 0) (by decide) (F := mF h0) mE_obj rfl 31 (by decide) (hts _ k1197) (fun _ h9 => h9) rfl dX10_foldsOne_126 ?_
            refine lv_iconst (v := iZ 1) hx hb dX10_foldsOne_129 rfl ?_
            refine lv_iload hx hb dX10_foldsOne_130 (lv_at hl 1 rfl) ?_
            refine fz_st (k := 752) (n := 3) (i := 1) (z := a) hx hb hK hP fA_in hS 0 (by decide) mE_found rfl ⟨by omega, by omega⟩ (by decide) dX10_foldsOne_132 (fun H locs hP hS => ?_)
            rw [show (1 : Int).toNat = 1 from rfl] at hP
            obtain ⟨μ5, eμ5⟩ : ∃ x : va_M, x = uz μ4 752 1 (a) := ⟨_, rfl⟩
            rw [← eμ5] at hP
            refine lv_aload_n hx hb dX10_foldsOne_133 rfl (lv_at hl 6 rfl) ?_
            refine fz_get (D := (dC, dI)) (ci := 10) (v := .ref (h0 + 752)) (C := RX10) (T := TX10) (N := 53) hx hb hts inG10 hown hK hP (k := 0) (by decide) (F := mF h0) mE_obj rfl 31 (by decide) (hts _ k1197) (fun _ h9 => h9) rfl dX10_foldsOne_134 ?_
            refine lv_iconst (v := iZ 2) hx hb dX10_foldsOne_137 rfl ?_
            refine lv_iload hx hb dX10_foldsOne_138 (lv_at hl 0 rfl) ?_
            refine fz_st (k := 752) (n := 3) (i := 2) (z := n_1) hx hb hK hP fA_in hS 0 (by decide) mE_found rfl ⟨by omega, by omega⟩ (by decide) dX10_foldsOne_140 (fun H locs hP hS => ?_)
            rw [show (2 : Int).toNat = 2 from rfl] at hP
            obtain ⟨μ6, eμ6⟩ : ∃ x : va_M, x = uz μ5 752 2 (n_1) := ⟨_, rfl⟩
            rw [← eμ6] at hP
            have ff : fr (fun x y => x = 752) μ1_ μ6 := by subst eμ6 eμ5 eμ4; exact fr_uz (fr_uz (fr_uz fr_rfl rfl) rfl) rfl
            have v752 : μ6 752 0 = n1 ∧ μ6 752 1 = a ∧ μ6 752 2 = n_1 := by
              subst eμ6 eμ5 eμ4
              exact ⟨by rw [uz_n (by omega), uz_n (by omega), uz_s], by rw [uz_n (by omega), uz_s], by rw [uz_s]⟩
            refine lv_aload_n hx hb dX10_foldsOne_141 rfl (lv_at hl 6 rfl) ?_
            refine lv_iload_n hx hb dX10_foldsOne_142 rfl (lv_at hl 5 rfl) ?_
            refine lv_aload_n hx hb dX10_foldsOne_143 rfl (lv_at hl 3 rfl) ?_
            refine lv_iload_n hx hb dX10_foldsOne_144 rfl (lv_at hl 4 rfl) ?_
            refine lv_iload hx hb dX10_foldsOne_145 (lv_at hl 1 rfl) ?_
            refine lv_iload hx hb dX10_foldsOne_147 (lv_at hl 2 rfl) ?_
            refine lv_iload hx hb dX10_foldsOne_149 (lv_at hl 0 rfl) ?_
            refine va_callv (va_runV (As := [.int (iZ (t)), .ref (h0 + q), .int (iZ (m9)), .int (iZ (a)), .int (iZ (n1)), .int (iZ (n_1))]) (rest := []) ⟨hx, hb, hml, hown, hts⟩ (m_putsRepeat l dC dI cI cZ cII cIII h0 H.size μ6 (t) (q) (m9) (a) (n1) (n_1) (w) (by first | assumption | omega | exact ⟨by omega, by omega⟩) (by first | assumption | omega | exact ⟨by omega, by omega⟩) (by exact RA_kept hR (fun x _ _ => ⟨ff _ _ (by show ¬ _ = 752; omega), ff _ _ (by show ¬ _ = 752; omega), ff _ _ (by show ¬ _ = 752; omega)⟩)) (by first | assumption | omega | exact ⟨by omega, by omega⟩) (by first | assumption | omega | exact ⟨by omega, by omega⟩) (by first | assumption | omega | exact ⟨by omega, by omega⟩) (by exact fun m hm => by rw [ff _ _ (by show ¬ _ = 752; omega)]; exact hrow m hm) (by first | assumption | omega | exact ⟨by omega, by omega⟩) (by first | assumption | omega | exact ⟨by omega, by omega⟩) (by first | assumption | omega | exact ⟨by omega, by omega⟩) (by exact q3_1) (by exact ⟨by omega, by omega, by omega, by omega⟩)) (cwV 6 hts (gV_G k1408 k1410 ks_yX10_putsRepeat k13 k1411) rfl rfl rfl (by decide +kernel) ⟨by show 24 + 1 ≤ _; omega, by show 8 + (10 + 11) + (760) ≤ _; omega⟩) ⟨fun a U g mk q => by obtain ⟨q0, q1, qP, qK⟩ := q; exact ⟨q0, q1, qP, va_K.moved (u := U) (U := U.calling g mk a) (Vm.Alike.refl U.vm) qK⟩, va_recv hK hP (ci := 10) (q0 := 0) rfl ((fw_get (by decide)).trans (by rw [mE_obj]; rfl)), fun U hU hW => ⟨rfl, by rw [hU], by rw [hU]; exact hP, va_K.moved hW.alike hK⟩⟩ rfl rfl hl.1 rfl (lv_room (Nat.le_of_ble_eq_true rfl)) dX10_foldsOne_151 ⟨hRc, hRs⟩) hS (fun q _ h => fA_le hS.1 q h) (fA_le hS.1) (fun u9 t9 H1 locs ht9 hvm9 hw9 hB9 hz9 hk9 hS => ?_)
            obtain ⟨hP, -⟩ := hB9
            rw [ht9] at hP
            generalize H1 = H at hP hS ⊢
            obtain ⟨μ7, eμ7⟩ : ∃ x : va_M, x = u9 := ⟨_, rfl⟩
            rw [← eμ7] at hP hw9
            have hμ7 := hw9; clear hw9
            exact hexit154 (0) μ7 H locs ls (by
                                obtain ⟨m1, h1, h2⟩ := hfm
                                have hp : n_1 * n1 = ((n_1.toNat * n1.toNat : Nat) : Int) := by rw [Int.natCast_mul, Int.toNat_of_nonneg (by omega), Int.toNat_of_nonneg (by omega)]
                                refine ⟨a.toNat, n1.toNat, n_1.toNat, ⟨by omega, by omega, by omega, q3_1, m1, by omega, h2⟩, hμ7.1, ?_, ⟨fun g1 => ⟨hno (by omega), fun g2 g3 => ?_⟩, fun g1 => hno2 (by omega)⟩, ⟨⟨by omega, by omega, by omega, q3_1, m1, by omega, h2⟩, hfo, ?_⟩, ?_, ?_, ?_⟩
                                · exact fr_trans (fr_mono ff (fun _ _ h => Or.inr (Or.inr h))) (fr_mono hμ7.2 (fun _ _ h => h.elim Or.inl (fun h2 => Or.inr (Or.inl h2))))
                                · obtain rfl : n1 = 1 := by omega
                                  rcases q8_1 with h | h
                                  · rw [Int.mul_one] at h; omega
                                  · refine h (fun m hm => ?_)
                                    obtain rfl : m = 0 := by omega
                                    rw [show a.toNat + n_1.toNat * (1 : Int).toNat + 0 = a.toNat + n_1.toNat by show a.toNat + n_1.toNat * 1 + 0 = _; omega]
                                    exact g3
                                · rcases q8_1 with h | h
                                  · refine Or.inl ?_
                                    rw [Int.add_mul, Int.one_mul, hp] at h
                                    rw [Nat.add_mul, Nat.one_mul]
                                    omega
                                  · exact Or.inr h
                                · rw [hμ7.2 _ _ (by unfold P8 PT; omega), v752.1]; omega
                                · rw [hμ7.2 _ _ (by unfold P8 PT; omega), v752.2.1]; omega
                                · rw [hμ7.2 _ _ (by unfold P8 PT; omega), v752.2.2]; omega) hP hS (lv_sub hl [] rfl)
          · refine lv_goto (tgt := 156) hx hb dX10_foldsOne_114 (by decide) ?_
            refine lv_iinc (v := iZ (a + 1)) (lv' := [(5, .int (iZ (a + 1))), (6, .int (iZ (n_1))), (4, .int (iZ (n1))), (3, .ref (h0 + q)), (2, .int (iZ (m9))), (1, .int (iZ (t))), (0, .ref h0)]) hx hb dX10_foldsOne_156 hl (k := 1) rfl (iZ_add _ _) (by decide) rfl (fun ls hl => ?_)
            refine lv_goto (tgt := 40) hx hb dX10_foldsOne_159 (by decide) ?_
            exact ih (a + 1) μ1_ H locs ls (by rfl) (by omega) (by
                                intro h1
                                rw [show (a + 1).toNat = a.toNat + 1 by omega]
                                first
                                  | (have c9 := c111_
                                     have hnf : ∀ m : Nat, (m : Int) < n1 → ¬ hfirm (rdrop (a.toNat + m) w) := by
                                       rcases hμ2 with ⟨h, _⟩ | ⟨_, h⟩
                                       · omega
                                       · exact h
                                     exact noF_S (hno h1) (fun _ h8 _ => hnf 0 (by omega) h8))
                                  | (have c9 := c98_
                                     refine noF_S (hno h1) (fun _ _ h9 => ?_)
                                     have hn1 : n_1 = 1 := by omega
                                     rcases q8_1 with h | h
                                     · rw [h1, hn1] at h; omega
                                     · refine h (fun m hm => ?_)
                                       rw [h1] at hm
                                       obtain rfl : m = 0 := by omega
                                       rw [hn1, h1]
                                       show halk (rdrop a.toNat w) (rdrop (a.toNat + 1) w)
                                       exact h9)) (by
                                rw [show (a + 1).toNat = a.toNat + 1 by omega]
                                refine fno_a hfo ?_
                                rintro ⟨g1, g2, g3, m1, g4, g5⟩
                                first
                                  | (have c9 := c111_
                                     rcases hμ2 with ⟨h, _⟩ | ⟨_, h⟩
                                     · omega
                                     · exact h m1 (by omega) g5)
                                  | (have c9 := c98_
                                     have hn1 : n_1 = 1 := by omega
                                     rcases q8_1 with h | h
                                     · rw [hn1] at h; omega
                                     · refine h (fun m hm => ?_)
                                       rw [hn1]
                                       show halk _ (rdrop (a.toNat + 1 * n1.toNat + m) w)
                                       rw [Nat.one_mul]
                                       exact g3 m hm)) (by omega) hP hS (lv_sub hl [0, 2, 3, 4, 5, 6] rfl)
set_option maxHeartbeats 4000000 in
set_option maxRecDepth 100000 in
theorem LX10_foldsOne_29z {p : Program} {l : Launch} {e : Env} {R : Room} {s : State} {m : MethodId} {args : Array Value} {below : List Frame} {meth : Method} {c : Code} {cells slots : Nat} {Q : State → Prop} {dC : Nat → ClassId} {dI : Nat → Nat → Nat} {h0 : Nat} {cI cZ cII cIII : ClassId} (hx : p.tables.exec = Jvm.exec) (hb : c.code = cX10_foldsOne) (hml : c.maxLocals = 7) (hown : s.vm.findClass RX10 = some m.cls) (hts : ∀ w ∈ wsG, w.before args s = true) (hK : va_K (dC, dI) vwCl (mT cI cZ cII cIII) s) (hRf : 25 ≤ R.frames) (hRl : 800 ≤ R.locals) (hRc : cells ≤ R.cells) (hRs : slots ≤ R.slots) (μ0 : va_M) (t : Int) (q : Nat) (m9 : Int) (w : Rw) (ht : 0 ≤ t ∧ t < 70) (hq : (723 ≤ q ∧ q < 737) ∨ (738 ≤ q ∧ q < 752)) (hR : RA μ0 t.toNat w 0) (hN : rN w ≤ 900) (hwf : rWF w) (hHH : rH w ≤ 20) (hrow : rowIs μ0 q w 0) (h260 : rI w ≤ 260) (hm9 : m9 = rI w) (ht3 : t ≠ 50 ∧ t ≠ 51 ∧ t ≠ 52) (hnod : μ0 719 t.toNat = rN w) (hexit154 : ∀ (n1 : Int) (μ : va_M) (H : Heap) (locs : List Loc) (ls : Array Slot), (∃ a1 s1 c1 : Nat, isFold w a1 s1 c1 ∧ TR μ t.toNat (rput w a1 s1 c1) ∧ fr (FP t.toNat) μ0 μ ∧ fEx w a1 s1 c1 ∧ fst1 w s1 a1 c1 ∧ μ 752 0 = s1 ∧ μ 752 1 = a1 ∧ μ 752 2 = c1) → va_P (dC, dI) vwCl (fw (mE cI cZ cII cIII h0) h0 6325 μ) H → va_S (fA h0 6325 s.heap.size) s.heap H locs → lv_has ls 7 [] → W p l e R s m args below meth c H locs cells slots Q (F0 m 154 ls [])) (hexit168 : ∀ (n1 : Int) (μ : va_M) (H : Heap) (locs : List Loc) (ls : Array Slot), (μ = μ0) → (noF w (rI w)) → (fEnd w) → va_P (dC, dI) vwCl (fw (mE cI cZ cII cIII h0) h0 6325 μ) H → va_S (fA h0 6325 s.heap.size) s.heap H locs → lv_has ls 7 [] → W p l e R s m args below meth c H locs cells slots Q (F0 m 168 ls [])) :
    ∀ (n9 : Nat) (n1 : Int) (μ : va_M) (H : Heap) (locs : List Loc) (ls : Array Slot), (μ = μ0) → (1 ≤ n1 ∧ n1 ≤ 300) → (2 ≤ n1 → noF w (rI w)) → (fno w n1.toNat 0) → (400 - n1).toNat < n9 → va_P (dC, dI) vwCl (fw (mE cI cZ cII cIII h0) h0 6325 μ) H → va_S (fA h0 6325 s.heap.size) s.heap H locs → lv_has ls 7 [(4, .int (iZ (n1))), (3, .ref (h0 + q)), (2, .int (iZ (m9))), (1, .int (iZ (t))), (0, .ref h0)] → W p l e R s m args below meth c H locs cells slots Q (F0 m 29 ls []) := by
  intro n9
  induction n9 with
  | zero => intro n1 μ H locs ls hm hs0 hno2 hfo2 hm9 hP hS hl; exact absurd hm9 (Nat.not_lt_zero _)
  | succ n9 ih =>
    intro n1 μ H locs ls hm hs0 hno2 hfo2 hm9 hP hS hl
    subst hm
    refine lv_iconst (v := iZ 2) hx hb dX10_foldsOne_29 rfl ?_
    refine lv_iload hx hb dX10_foldsOne_30 (lv_at hl 0 rfl) ?_
    refine lv_imul hx hb dX10_foldsOne_32 ?_
    refine lv_topi (fun x9 ex9 => ?_)
    obtain rfl : x9 = iZ (2 * n1) := ex9.trans (iZ_mul _ _)
    refine lv_iload_n hx hb dX10_foldsOne_33 rfl (lv_at hl 2 rfl) ?_
    refine fz_icmp_gt (tgt := 168) (by constructor <;> omega) (by constructor <;> omega) hx hb dX10_foldsOne_34 (by decide) (fun c34_ => ?_) (fun c34_ => ?_)
    · exact hexit168 (n1) μ H locs ls (by rfl) (by
                    by_cases h1 : n1 = 1
                    · intro x _ hx2; omega
                    · exact hno2 (by omega)) (by exact fno_end hfo2 (by omega)) hP hS (lv_sub hl [] rfl)
    · refine lv_iconst (v := iZ 0) hx hb dX10_foldsOne_37 rfl ?_
      refine lv_istore (lv' := [(5, .int (iZ (0))), (4, .int (iZ (n1))), (3, .ref (h0 + q)), (2, .int (iZ (m9))), (1, .int (iZ (t))), (0, .ref h0)]) hx hb dX10_foldsOne_38 hl (by decide) rfl (fun ls hl => ?_)
      refine LX10_foldsOne_40z hx hb hml hown hts hK hRf hRl hRc hRs (μ) (t) (q) (m9) (w) (n1) (by assumption) (by assumption) (by assumption) (by assumption) (by assumption) (by assumption) (by assumption) (by assumption) (by assumption) (by assumption) (by assumption) (by omega) (by exact hno2) (by exact hfo2) ?_ ?_ _ (0) μ H locs ls (by rfl) (by omega) (by intro _ x hx; exact absurd hx (Nat.not_lt_zero _)) (by exact hfo2) (Nat.lt_succ_self _) hP hS (lv_sub hl [0, 1, 2, 3, 4, 5] rfl)
      · intro a_1 μ1_ H locs ls q5_1 hP hS hl
        have hl : lv_has ls 7 [] := hl
        exact hexit154 (0) μ1_ H locs ls (by exact q5_1) hP hS (lv_sub hl [] rfl)
      · intro a_2 μ2_ H locs ls q4_2 q9_2 q11_2 hP hS hl
        have hl : lv_has ls 7 [(4, .int (iZ (n1))), (3, .ref (h0 + q)), (2, .int (iZ (m9))), (1, .int (iZ (t))), (0, .ref h0)] := hl
        have hPn := hP
        obtain rfl := q4_2
        have hP := hPn
        refine lv_iinc (v := iZ (n1 + 1)) (lv' := [(4, .int (iZ (n1 + 1))), (3, .ref (h0 + q)), (2, .int (iZ (m9))), (1, .int (iZ (t))), (0, .ref h0)]) hx hb dX10_foldsOne_162 hl (k := 0) rfl (iZ_add _ _) (by decide) rfl (fun ls hl => ?_)
        refine lv_goto (tgt := 29) hx hb dX10_foldsOne_165 (by decide) ?_
        exact ih (n1 + 1) μ2_ H locs ls (by rfl) (by omega) (by
                        intro _
                        by_cases h1 : n1 = 1
                        · exact q9_2 h1
                        · exact hno2 (by omega)) (by
                        have h11 := q11_2
                        rw [show (n1 + 1).toNat = n1.toNat + 1 by omega]
                        exact fno_s h11.1 (by omega)) (by omega) hP hS (lv_sub hl [0, 1, 2, 3, 4] rfl)
set_option maxHeartbeats 40000000 in
set_option maxRecDepth 100000 in
theorem m_foldsOne2 (l : Launch) (dC : Nat → ClassId) (dI : Nat → Nat → Nat) (cI cZ cII cIII : ClassId) (h0 sz : Nat) (μ : va_M) (t : Int) (w : Rw) (ht : 0 ≤ t ∧ t < 70) (ht3 : t ≠ 50 ∧ t ≠ 51 ∧ t ≠ 52) (hT : TR μ t.toNat w) (hN : rN w ≤ 900) (hwf : rWF w) (hHH : rH w ≤ 20) (h260 : rI w ≤ 260) : Met l yX10_foldsOne (Cond.code yX10_foldsOne cX10_foldsOne 7 (some .boolean) :: wsG) ({ frames := 25, cells := 0, slots := 0, locals := 800 } : Room) (va_Pc [.ref h0, .int (iZ (t))] (fun U => U.heap.size = sz ∧ va_P (dC, dI) vwCl (fw (mE cI cZ cII cIII h0) h0 6325 μ) U.heap ∧ va_K (dC, dI) vwCl (mT cI cZ cII cIII) U)) (va_Qi (fun (r9 : Int32) (u : va_M × Int) => r9 = iZ u.2 ∧ (fun (u : va_M) (r : Int) => (r = 0 ∧ fr (fun x y => x = 723) μ u ∧ noF w (rI w) ∧ fEnd w) ∨ (r = 1 ∧ ∃ a1 s1 c1 : Nat, isFold w a1 s1 c1 ∧ TR u t.toNat (rput w a1 s1 c1) ∧ fr (FQ t.toNat) μ u ∧ fEx w a1 s1 c1 ∧ fst1 w s1 a1 c1 ∧ u 752 0 = s1 ∧ u 752 1 = a1 ∧ u 752 2 = c1)) u.1 u.2) (fun u t => va_P (dC, dI) vwCl (fw (mE cI cZ cII cIII h0) h0 6325 u.1) t.heap ∧ va_K (dC, dI) vwCl (mT cI cZ cII cIII) t) (fA h0 6325 sz)) 0 0 (fA h0 6325 sz) := by
  refine Met.ofW (cc := cX10_foldsOne) (maxL := 7) (ret := (some .boolean)) (by decide) rfl ?_
  intro p e s m args below meth c s₁ B hml hv
  obtain ⟨rfl, hsz, hP, hK⟩ := hv
  have hx := B.exec
  have hb := B.bytes
  have hr := B.returns
  have hts : ∀ w ∈ wsG, w.before _ s = true := hG_of (atoms_spec (ws := (Cond.code yX10_foldsOne cX10_foldsOne 7 (some .boolean) :: wsG)) B.pre)
  have hown : s.vm.findClass RX10 = some m.cls := findClass_of_methodNamed B.named
  have hlocks := B.notSynchronized
  subst hsz
  have hS : va_S (fA h0 6325 s.heap.size) s.heap s.heap [] := va_S.rf
  have hl := lv_entry ([.ref h0, .int (iZ (t))]) (n := 7) (Nat.le_of_ble_eq_true rfl)
  rw [lg_entry_eq]
  generalize (lg_sl ([.ref h0, .int (iZ (t))]) ++ List.replicate (7 - (lg_sl ([.ref h0, .int (iZ (t))])).length) Slot.unset).toArray = ls at hl ⊢
  have hl : lv_has ls 7 [(0, .ref h0), (1, .int (iZ (t)))] := hl
  have hR : RA μ t.toNat w 0 := hT.2
  have hn0 : μ 719 t.toNat = rN w := hT.1
  refine lv_aload_n hx hb dX10_foldsOne_0 rfl (lv_at hl 0 rfl) ?_
  refine lv_iload_n hx hb dX10_foldsOne_1 rfl (lv_at hl 1 rfl) ?_
  refine lv_iconst (v := iZ 0) hx hb dX10_foldsOne_2 rfl ?_
  refine lv_aload_n hx hb dX10_foldsOne_3 rfl (lv_at hl 0 rfl) ?_
  refine fz_get (D := (dC, dI)) (ci := 10) (v := .ref (h0 + 719)) (C := RX10) (T := TX10) (N := 53) hx hb hts inG10 hown hK hP (k := 0) (by decide) (F := mF h0) mE_obj rfl 21 (by decide) (hts _ k1187) (fun _ h9 => h9) rfl dX10_foldsOne_4 ?_
  refine lv_iload_n hx hb dX10_foldsOne_7 rfl (lv_at hl 1 rfl) ?_
  refine fz_ld (k := 719) (n := 70) hx hb hK hP 0 (by decide) mE_nodes rfl ⟨by omega, by omega⟩ (by decide) dX10_foldsOne_8 ?_
  refine lv_aload_n hx hb dX10_foldsOne_9 rfl (lv_at hl 0 rfl) ?_
  refine fz_get (D := (dC, dI)) (ci := 10) (v := .ref (h0 + 722)) (C := RX10) (T := TX10) (N := 53) hx hb hts inG10 hown hK hP (k := 0) (by decide) (F := mF h0) mE_obj rfl 29 (by decide) (hts _ k1195) (fun _ h9 => h9) rfl dX10_foldsOne_10 ?_
  refine lv_iconst (v := iZ 0) hx hb dX10_foldsOne_13 rfl ?_
  refine fz_ald (k := 722) (n := 14) (k2 := (723 + 0)) hx hb hK hP 2 rfl (by decide) mE_rowS rfl ⟨by omega, by omega⟩ (by decide) (if_pos (by omega)) dX10_foldsOne_14 ?_
  refine va_calli (va_runV (As := [.int (iZ (t)), .int (iZ (0)), .int (iZ (μ 719 (t).toNat)), .ref (h0 + (723 + 0))]) (rest := []) ⟨hx, hb, hml, hown, hts⟩ (m_lists l dC dI cI cZ cII cIII h0 s.heap.size μ (t) (0) (μ 719 (t).toNat) ((723 + 0)) (w) (by first | assumption | omega | exact ⟨by omega, by omega⟩) (by omega) (by show μ 719 t.toNat = 0 + (rN w : Int); omega) (by exact hR) (by exact Or.inl (by decide)) (by first | assumption | omega | exact ⟨by omega, by omega⟩)) (cwV 4 hts (gV_G k1385 k1387 ks_yX10_lists k13 k1388) rfl rfl rfl (by decide +kernel) ⟨Nat.le_of_ble_eq_true rfl, Nat.le_of_ble_eq_true rfl⟩) ⟨fun a U g mk q => by obtain ⟨q0, q1, qP, qK⟩ := q; exact ⟨q0, q1, qP, va_K.moved (u := U) (U := U.calling g mk a) (Vm.Alike.refl U.vm) qK⟩, va_recv hK hP (ci := 10) (q0 := 0) rfl ((fw_get (by decide)).trans (by rw [mE_obj]; rfl)), fun U hU hW => ⟨rfl, by rw [hU], by rw [hU]; exact hP, va_K.moved hW.alike hK⟩⟩ rfl rfl hl.1 rfl (lv_room (Nat.le_of_ble_eq_true rfl)) dX10_foldsOne_15 ⟨Nat.le_of_ble_eq_true rfl, Nat.le_of_ble_eq_true rfl⟩) hS (fun q _ h => fA_le hS.1 q h) (fA_le hS.1) (fun r9 u9 t9 H1 locs ht9 hvm9 hw9 hB9 hz9 hk9 hS => ?_)
  obtain ⟨μa, ma⟩ := u9
  obtain ⟨hP, -⟩ := hB9
  rw [ht9] at hP
  generalize H1 = H at hP hS ⊢
  obtain ⟨e9, hw9⟩ := hw9
  have e9 : r9 = iZ ma := e9
  subst e9
  simp only at hP hw9
  have hμa := hw9; clear hw9
  have fa : fr (fun x y => x = 723) μ μa := hμa.2.2
  have hka : ∀ x, μa (507 + t.toNat) x = μ (507 + t.toNat) x ∧ μa (578 + t.toNat) x = μ (578 + t.toNat) x ∧ μa (649 + t.toNat) x = μ (649 + t.toNat) x := fun x => ⟨fa _ _ (by show ¬ _ = 723; omega), fa _ _ (by show ¬ _ = 723; omega), fa _ _ (by show ¬ _ = 723; omega)⟩
  have hma : ma = rI w := hμa.1
  refine lv_istore_n (lv' := [(2, .int (iZ (ma))), (0, .ref h0), (1, .int (iZ (t)))]) hx hb dX10_foldsOne_18 rfl hl (by decide) rfl (fun ls hl => ?_)
  refine lv_aload_n hx hb dX10_foldsOne_19 rfl (lv_at hl 1 rfl) ?_
  refine fz_get (D := (dC, dI)) (ci := 10) (v := .ref (h0 + 722)) (C := RX10) (T := TX10) (N := 53) hx hb hts inG10 hown hK hP (k := 0) (by decide) (F := mF h0) mE_obj rfl 29 (by decide) (hts _ k1195) (fun _ h9 => h9) rfl dX10_foldsOne_20 ?_
  refine lv_iconst (v := iZ 0) hx hb dX10_foldsOne_23 rfl ?_
  refine fz_ald (k := 722) (n := 14) (k2 := (723 + 0)) hx hb hK hP 2 rfl (by decide) mE_rowS rfl ⟨by omega, by omega⟩ (by decide) (if_pos (by omega)) dX10_foldsOne_24 ?_
  refine lv_astore_n (lv' := [(3, .ref (h0 + (723 + 0))), (2, .int (iZ (ma))), (0, .ref h0), (1, .int (iZ (t)))]) hx hb dX10_foldsOne_25 rfl hl (by decide) rfl (fun ls hl => ?_)
  refine lv_iconst (v := iZ 1) hx hb dX10_foldsOne_26 rfl ?_
  refine lv_istore (lv' := [(4, .int (iZ (1))), (3, .ref (h0 + (723 + 0))), (2, .int (iZ (ma))), (0, .ref h0), (1, .int (iZ (t)))]) hx hb dX10_foldsOne_27 hl (by decide) rfl (fun ls hl => ?_)
  refine LX10_foldsOne_29z hx hb hml hown hts hK (Nat.le_of_ble_eq_true rfl) (Nat.le_of_ble_eq_true rfl) (Nat.le_of_ble_eq_true rfl) (Nat.le_of_ble_eq_true rfl) (μa) (t) ((723 + 0)) (ma) (w) (by exact ⟨by omega, by omega⟩) (by exact Or.inl (by decide)) (by exact RA_kept hR (fun x _ _ => hka x)) (by assumption) (by assumption) (by assumption) (by intro m hm; have := hμa.2.1 m hm; omega) (by assumption) (by assumption) (by assumption) (by rw [fa _ _ (by show ¬ _ = 723; omega)]; exact hn0) ?_ ?_ _ (1) μa H locs ls (by rfl) (by omega) (by intro h; omega) (by exact fno_1) (Nat.lt_succ_self _) hP hS (lv_sub hl [0, 1, 2, 4, 3] rfl)
  · intro n1_3 μ3_ H locs ls q7_3 hP hS hl
    have hl : lv_has ls 7 [] := hl
    refine lv_iconst (v := iZ 1) hx hb dX10_foldsOne_154 rfl ?_
    exact W.zret (v := iZ (1)) hx hb hr (by decide +kernel) (fun t9 ht9 hW9 => ⟨⟨iZ (1), (μ3_, 1), rfl, ⟨rfl, (by
                dsimp only
                obtain ⟨a1, s1, c1, h1, h2, h3, h4, h5⟩ := q7_3
                exact Or.inr ⟨rfl, a1, s1, c1, h1, h2, fr_trans (fr_mono fa (fun _ _ h => Or.inl h)) (fr_mono h3 (fun _ _ h => Or.inr h)), h4, h5⟩)⟩, by rw [ht9]; exact hP, va_K.moved hW9.alike hK⟩, hS.F ht9⟩) hS.2.2 dX10_foldsOne_155
  · intro n1_4 μ4_ H locs ls q6_4 q10_4 q12_4 hP hS hl
    have hl : lv_has ls 7 [] := hl
    refine lv_iconst (v := iZ 0) hx hb dX10_foldsOne_168 rfl ?_
    exact W.zret (v := iZ (0)) hx hb hr (by decide +kernel) (fun t9 ht9 hW9 => ⟨⟨iZ (0), (μ4_, 0), rfl, ⟨rfl, (by
                dsimp only
                exact Or.inl ⟨rfl, by rw [q6_4]; exact fa, q10_4, q12_4⟩)⟩, by rw [ht9]; exact hP, va_K.moved hW9.alike hK⟩, hS.F ht9⟩) hS.2.2 dX10_foldsOne_169

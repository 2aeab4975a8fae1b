
/-! laying, told whole: one cell -/
/-- the row stands in the line -/
def rwL (μ : va_M) (q : Nat) (w : Rw) : Prop := rW0 w ∧ SA μ (q + 1) w 0 ∧ μ q 5 = sL w
def LCv (μ : va_M) (q q2 : Nat) (w b : Rw) (i j : Int) : Prop := ∀ i2 j2 : Int, vis μ q q2 i2 j2 → (i < i2 ∨ (i = i2 ∧ j < j2)) → μ 42 (i2 * μ 41 3 + j2).toNat = enc (sub w i2.toNat) (sub b j2.toNat)
theorem LCv_LC {μ : va_M} {q q2 : Nat} {w b : Rw} {i j : Int} (h1 : rwL μ q w) (h2 : rwL μ q2 b) (h : LCv μ q q2 w b i j) : LC μ q q2 i j := fun i2 j2 hv hl => by
  have e := h i2 j2 hv hl
  obtain ⟨⟨⟨a1, a2⟩, a3, a4⟩, -⟩ := hv
  have b1 := (sub_A w 0 i2.toNat h1.2.1 (by have := h1.2.2; omega)).2.1
  have b2 := (sub_A b 0 j2.toNat h2.2.1 (by have := h2.2.2; omega)).2.1
  have c := enc_16 (sub w i2.toNat) (sub b j2.toNat)
  have d1 := rL_sL (sub w i2.toNat) (sub_W w _ h1.1)
  have d2 := rL_sL (sub b j2.toNat) (sub_W b _ h2.1)
  have e1 := h1.2.2
  have e2 := h2.2.2
  rw [e]
  unfold bnd
  omega
/-- the item at a place -/
theorem at_in {μ : va_M} {q rm : Nat} {w : Rw} {i : Int} (hG : rG μ q rm) (h : rwL μ q w) (h0 : 0 ≤ i) (hi : i < μ q 5 ∧ μ (q + 1) i.toNat ≠ 515) : ∃ (z k : Nat) (v : Int) (l r : Rw) (d : Nat), sub w i.toNat = .inner z k v l r ∧ (iW0 k v l ∧ rW0 l ∧ rW0 r) ∧ μ (q + 1) i.toNat = sG k v ∧ SA μ (q + 1) (.inner z k v l r : Rw) i.toNat ∧ d = (if k < 3 then 1 else 2 + sL l) ∧ μ (q + 2) i.toNat + 1 = i + d ∧ sub w (i.toNat + d) = r ∧ (3 ≤ k → sub w (i.toNat + 1) = l) ∧ ((k < 3 ∧ d = 1 ∧ 0 ≤ sG k v ∧ sG k v ≤ 512) ∨ (k = 3 ∧ d = 2 + sL l ∧ sG k v = 513) ∨ (k = 4 ∧ d = 2 + sL l ∧ sG k v = 514)) ∧ i.toNat + d + sL r ≤ sL w := by
  have hl := h.2.2
  have hle : i.toNat ≤ sL w := by omega
  rcases sub_e h.1 h.2.1 hle with ⟨-, e⟩ | ⟨z, k, v, l, r, e1, e2, e3, e4, e5, e6, e7⟩
  · exfalso
    rcases e with e | e
    · omega
    · exact hi.2 e
  · have a := (sub_A w 0 i.toNat h.2.1 hle).1
    rw [Nat.zero_add, e1] at a
    obtain ⟨s1, s2, s3⟩ := sub_in w i.toNat hle e1
    have m := it_mate hG (i := i.toNat) (by omega) ⟨e2, e3, e4⟩ a rfl
    obtain ⟨g1, g2, g3⟩ := sG_b e2
    refine ⟨z, k, v, l, r, _, e1, ⟨e2, e3, e4⟩, e6, a, rfl, by omega, s2, s3, ?_, s1⟩
    by_cases hk : k < 3
    · rw [if_pos hk]
      exact Or.inl ⟨hk, rfl, g1 hk⟩
    · rw [if_neg hk]
      have := e2.1
      by_cases hk3 : k = 3
      · exact Or.inr (Or.inl ⟨hk3, rfl, g2 hk3⟩)
      · exact Or.inr (Or.inr ⟨by omega, rfl, g3 (by omega)⟩)
theorem at_B {μ : va_M} {q q2 : Nat} {w b : Rw} {i j : Int} (h1 : rwL μ q w) (h2 : rwL μ q2 b) (hv : vis μ q q2 i j) (hl : μ q 5 ≤ 1100 ∧ μ q2 5 ≤ 1100) : rN (sub w i.toNat) + rN (sub b j.toNat) ≤ 3000 := by
  have d1 := rL_sL (sub w i.toNat) (sub_W w _ h1.1)
  have d2 := rL_sL (sub b j.toNat) (sub_W b _ h2.1)
  obtain ⟨⟨⟨a1, a2⟩, a3, a4⟩, -⟩ := hv
  have b1 := (sub_A w 0 i.toNat h1.2.1 (by have := h1.2.2; omega)).2.1
  have b2 := (sub_A b 0 j.toNat h2.2.1 (by have := h2.2.2; omega)).2.1
  have e1 := h1.2.2
  have e2 := h2.2.2
  omega
/-- where the row that a place stands in ends -/
theorem at_end {μ : va_M} {q : Nat} {w : Rw} {i : Int} (h : rwL μ q w) (h0 : 0 ≤ i ∧ i ≤ μ q 5) : (i.toNat + sL (sub w i.toNat) = sL w ∨ μ (q + 1) (i.toNat + sL (sub w i.toNat)) = 515) ∧ SA μ (q + 1) (sub w i.toNat) i.toNat ∧ i.toNat + sL (sub w i.toNat) ≤ sL w := by
  have hl := h.2.2
  obtain ⟨a1, a2, a3⟩ := sub_A w 0 i.toNat h.2.1 (by omega)
  rw [Nat.zero_add] at a1 a3
  exact ⟨a3, a1, a2⟩
/-- a stretch of the row's item against the page -/
theorem mt_r {μ : va_M} {q q2 : Nat} {x y b : Rw} {p p2 n1 n2 n : Int} (hx : rW0 x) (hb : rwL μ q2 b) (h0 : 0 ≤ p ∧ 0 ≤ p2 ∧ p2 ≤ μ q2 5) (hs : SA μ (q + 1) x p.toNat) (hn : n = sL x) (h1 : p + n ≤ n1) (h2 : n2 = μ q2 5) (hy : sub b p2.toNat = y) : sMat μ (q + 1) p n1 (q2 + 1) p2 n2 n ↔ nxt x y := by
  obtain ⟨c1, c2, c3⟩ := at_end hb h0.2
  have hW := sub_W b p2.toNat hb.1
  have e2 := hb.2.2
  rw [hy] at c1 c2 c3 hW
  constructor
  · rintro ⟨m1, m2⟩
    exact sA_nx x y p.toNat p2.toNat (sL b) hx hW hs c2 c1 (by omega) (fun t ht => m2 t (by omega))
  · intro h
    obtain ⟨m1, m2, m3⟩ := nx_sA hx hW hs c2 h
    exact ⟨by omega, fun t ht => m3 t (by omega)⟩
/-- behind a stretch -/
theorem mt_d {μ : va_M} {q q2 : Nat} {x y b : Rw} {p : Nat} {p2 : Int} (hx : rW0 x) (hb : rwL μ q2 b) (h0 : 0 ≤ p2 ∧ p2 ≤ μ q2 5) (hs : SA μ (q + 1) x p) (hy : sub b p2.toNat = y) (h : nxt x y) : sub b (p2.toNat + sL x) = rdrop (rI x) y ∧ cRng μ (q + 1) p (q2 + 1) p2.toNat (sL x) = rfC x y := by
  obtain ⟨c1, c2, c3⟩ := at_end hb h0
  have hW := sub_W b p2.toNat hb.1
  have e2 := hb.2.2
  have hd := sub_dr (rI x) b p2.toNat (by omega) c3
  rw [hy] at c2 hW hd
  have hm := nx_sA hx hW hs c2 h
  rw [← hm.1] at hd
  exact ⟨hd, nx_cR x y p p2.toNat hx hW hs c2 h⟩
set_option maxHeartbeats 4000000 in
set_option maxRecDepth 100000 in
theorem s_Vboth (l : Launch) (dC : Nat → ClassId) (dI : Nat → Nat → Nat) (cI cZ cII cIII : ClassId) (h0 sz : Nat) (μ : va_M) (q : Nat) (rm : Nat) (q2 : Nat) (rm2 : Nat) (i : Int) (j : Int) (w : Rw) (b : Rw) (hq : rowB q rm) (hq2 : rowB q2 rm2) (hG : rG μ q rm) (hG2 : rG μ q2 rm2) (h96 : rm2 = 96) (hst : μ 41 3 = μ q2 5 + 1) (hv : vis μ q q2 i j) (hw9 : rwL μ q w) (hb9 : rwL μ q2 b) (hLCv : LCv μ q q2 w b i j) (hi : i < μ q 5 ∧ μ (q + 1) i.toNat ≠ 515) (hj : j < μ q2 5 ∧ μ (q2 + 1) j.toNat ≠ 515) : Met l yX0_both (Cond.code yX0_both cX0_both 8 (some .int) :: wsG) ({ frames := 2, cells := 0, slots := 0, locals := 37 } : Room) (va_Pc [.ref (h0 + 41), .ref (h0 + q), .ref (h0 + q2), .int (iZ (i)), .int (iZ (j))] (fun U => U.heap.size = sz ∧ va_P (dC, dI) vwCl (fw (sE cI cZ cII cIII h0) h0 233 μ) U.heap ∧ va_K (dC, dI) vwCl (sT cI cZ cII cIII) U ∧ xM U)) (va_Qi (fun (r9 : Int32) (u : va_M × Int) => r9 = iZ u.2 ∧ (fun (u : va_M) (r : Int) => u = μ ∧ r = ck 1 (sub w i.toNat) (sub b j.toNat)) u.1 u.2) (fun u t => va_P (dC, dI) vwCl (fw (sE cI cZ cII cIII h0) h0 233 u.1) t.heap ∧ va_K (dC, dI) vwCl (sT cI cZ cII cIII) t) (fA h0 233 sz)) 0 0 (fA h0 233 sz) := by
  refine Met.ofW (cc := cX0_both) (maxL := 8) (ret := (some .int)) (by decide) rfl ?_
  intro p e s m args below meth c s₁ B hml hv
  obtain ⟨rfl, hsz, hP, hK, hM⟩ := hv
  have hx := B.exec
  have hb := B.bytes
  have hr := B.returns
  have hts : ∀ w ∈ wsG, w.before _ s = true := hG_of (atoms_spec (ws := (Cond.code yX0_both cX0_both 8 (some .int) :: wsG)) B.pre)
  have hown : s.vm.findClass RX0 = some m.cls := findClass_of_methodNamed B.named
  have hlocks := B.notSynchronized
  subst hsz
  have hS : va_S (fA h0 233 s.heap.size) s.heap s.heap [] := va_S.rf
  have hl := lv_entry ([.ref (h0 + 41), .ref (h0 + q), .ref (h0 + q2), .int (iZ (i)), .int (iZ (j))]) (n := 8) (Nat.le_of_ble_eq_true rfl)
  rw [lg_entry_eq]
  generalize (lg_sl ([.ref (h0 + 41), .ref (h0 + q), .ref (h0 + q2), .int (iZ (i)), .int (iZ (j))]) ++ List.replicate (8 - (lg_sl ([.ref (h0 + 41), .ref (h0 + q), .ref (h0 + q2), .int (iZ (i)), .int (iZ (j))])).length) Slot.unset).toArray = ls at hl ⊢
  have hl : lv_has ls 8 [(0, .ref (h0 + 41)), (1, .ref (h0 + q)), (2, .ref (h0 + q2)), (3, .int (iZ (i))), (4, .int (iZ (j)))] := hl
  have hqb := rowB_b hq
  have hqb2 := rowB_b hq2
  have hrm := rG_rm hq hG
  have hrm2 := rG_rm hq2 hG2
  have hs1 := hG.1 i.toNat
  have hs2 := hG2.1 j.toNat
  have hv0 := hv.1
  have ml0 := mulC (i := i) (s := μ 41 3) (by omega) (by omega) (by omega) (by omega)
  have hm1 := rG_m hG i (by omega) (by omega)
  have hm2 := rG_m hG2 j (by omega) (by omega)
  have ml1 := mulC (i := i + 1) (s := μ 41 3) (by omega) (by omega) (by omega) (by omega)
  have lw9 := hw9.2.2
  have lb9 := hb9.2.2
  have hLC := LCv_LC hw9 hb9 hLCv
  have hB9 := at_B hw9 hb9 hv ⟨by omega, by omega⟩
  obtain ⟨zx, kx, vx, lx, rx, dx, ex, wx, sx, ax, ddx, mx, nx, ox, gx, lex⟩ := at_in hG hw9 (by omega) hi
  obtain ⟨zy, ky, vy, ly, ry, dy, ey, wy, sy, ay, ddy, my, ny, oy, gy, ley⟩ := at_in hG2 hb9 (by omega) hj
  rw [ex, ey] at hB9
  refine lv_aload_n hx hb dX0_both_0 rfl (lv_at hl 1 rfl) ?_
  refine fz_get (D := (dC, dI)) (ci := 4) (v := .ref (h0 + (q + 1))) (C := RX4) (T := TX4) (N := 8) hx hb hts inG4 hown hK hP (k := q) (by omega) (F := (sRF h0 q)) (sE_rowO hq) rfl 0 (by decide) (hts _ k80) (fun _ h9 => h9) rfl dX0_both_1 ?_
  refine lv_iload_n hx hb dX0_both_4 rfl (lv_at hl 3 rfl) ?_
  refine fz_ld (k := (q + 1)) (n := rm) hx hb hK hP 0 (by omega) (sE_rowA (r := 1) hq (by decide)) rfl ⟨by omega, by omega⟩ (by omega) dX0_both_5 ?_
  refine lv_istore (lv' := [(5, .int (iZ (μ (q + 1) (i).toNat))), (0, .ref (h0 + 41)), (1, .ref (h0 + q)), (2, .ref (h0 + q2)), (3, .int (iZ (i))), (4, .int (iZ (j)))]) hx hb dX0_both_6 hl (by decide) rfl (fun ls hl => ?_)
  refine lv_aload_n hx hb dX0_both_8 rfl (lv_at hl 3 rfl) ?_
  refine fz_get (D := (dC, dI)) (ci := 4) (v := .ref (h0 + (q2 + 1))) (C := RX4) (T := TX4) (N := 8) hx hb hts inG4 hown hK hP (k := q2) (by omega) (F := (sRF h0 q2)) (sE_rowO hq2) rfl 0 (by decide) (hts _ k80) (fun _ h9 => h9) rfl dX0_both_9 ?_
  refine lv_iload hx hb dX0_both_12 (lv_at hl 5 rfl) ?_
  refine fz_ld (k := (q2 + 1)) (n := rm2) hx hb hK hP 0 (by omega) (sE_rowA (r := 1) hq2 (by decide)) rfl ⟨by omega, by omega⟩ (by omega) dX0_both_14 ?_
  refine lv_istore (lv' := [(6, .int (iZ (μ (q2 + 1) (j).toNat))), (5, .int (iZ (μ (q + 1) (i).toNat))), (0, .ref (h0 + 41)), (1, .ref (h0 + q)), (2, .ref (h0 + q2)), (3, .int (iZ (i))), (4, .int (iZ (j)))]) hx hb dX0_both_15 hl (by decide) rfl (fun ls hl => ?_)
  refine lv_iload hx hb dX0_both_17 (lv_at hl 1 rfl) ?_
  refine va_calli (va_runSN (As := [.int (iZ (μ (q + 1) (i).toNat))]) (rest := []) ⟨hx, hb, hml, hown, hts⟩ (s_isLeaf l dC dI cI cZ cII cIII h0 s.heap.size μ (μ (q + 1) (i).toNat) (by first | assumption | omega | exact ⟨by omega, by omega⟩)) ⟨va_cnB (host := "PageSkeleton") 1 hts (gI_G k420) rfl rfl rfl (xM_nest hM 14 rfl) (hts _ k1) (by decide +kernel) ⟨Nat.le_of_ble_eq_true rfl, Nat.le_of_ble_eq_true rfl⟩, hts _ k419, trivial⟩ ⟨fun a U g mk q => by obtain ⟨q0, q1, qP, qK, qM⟩ := q; exact ⟨q0, q1, qP, va_K.moved (u := U) (U := U.calling g mk a) (Vm.Alike.refl U.vm) qK, qM⟩, fun U hU hW => ⟨rfl, by rw [hU], by rw [hU]; exact hP, va_K.moved hW.alike hK, xM_warm hW hM⟩⟩ rfl rfl hl.1 rfl (lv_room (Nat.le_of_ble_eq_true rfl)) dX0_both_19 ⟨Nat.le_of_ble_eq_true rfl, Nat.le_of_ble_eq_true rfl⟩) hS (fun q _ h => fA_le hS.1 q h) (fA_le hS.1) (fun r9 u9 t9 H1 locs ht9 hvm9 hw9 hB9 hz9 hk9 hS => ?_)
  obtain ⟨μ1, r2⟩ := u9
  obtain ⟨hP, -⟩ := hB9
  rw [ht9] at hP
  generalize H1 = H at hP hS ⊢
  obtain ⟨e9, hw9⟩ := hw9
  have e9 : r9 = iZ r2 := e9
  subst e9
  simp only at hP hw9
  have hμ1 := hw9; clear hw9
  rw [hμ1.1] at hP; have hμ1 := hμ1.2
  have hlf := if_el hμ1
  refine fz_if_eq (tgt := 66) (by constructor <;> omega) hx hb dX0_both_22 (by decide) (fun c22_ => ?_) (fun c22_ => ?_)
  · refine lv_iload hx hb dX0_both_66 (lv_at hl 1 rfl) ?_
    refine lv_sipush (v := iZ 514) hx hb dX0_both_68 rfl ?_
    refine fz_icmp_ne (tgt := 141) (by constructor <;> omega) (by decide) hx hb dX0_both_71 (by decide) (fun c71_ => ?_) (fun c71_ => ?_)
    · refine lv_ldc (v := iZ 268435456) hx hb hown (hts _ k778) dX0_both_141 ?_
      exact W.iret (v := iZ (268435456)) hx hb hr (fun t9 ht9 hW9 => ⟨⟨iZ (268435456), (μ, 268435456), rfl, ⟨rfl, (by
                    dsimp only
                    have q9 := (ck1_op (z := zx) (z2 := zy) (v := vx) (v2 := vy) (r := rx) (r2 := ry) (by omega) hB9).2.2 (by omega)
                    refine ⟨rfl, ?_⟩
                    rw [ex, ey, q9])⟩, by rw [ht9]; exact hP, va_K.moved hW9.alike hK⟩, hS.F ht9⟩) hS.2.2 dX0_both_143
    · refine lv_iload hx hb dX0_both_74 (lv_at hl 0 rfl) ?_
      refine lv_sipush (v := iZ 514) hx hb dX0_both_76 rfl ?_
      refine fz_icmp_ne (tgt := 141) (by constructor <;> omega) (by decide) hx hb dX0_both_79 (by decide) (fun c79_ => ?_) (fun c79_ => ?_)
      · refine lv_ldc (v := iZ 268435456) hx hb hown (hts _ k778) dX0_both_141 ?_
        exact W.iret (v := iZ (268435456)) hx hb hr (fun t9 ht9 hW9 => ⟨⟨iZ (268435456), (μ, 268435456), rfl, ⟨rfl, (by
                        dsimp only
                        have q9 := (ck1_op (z := zx) (z2 := zy) (v := vx) (v2 := vy) (r := rx) (r2 := ry) (by omega) hB9).2.2 (by omega)
                        refine ⟨rfl, ?_⟩
                        rw [ex, ey, q9])⟩, by rw [ht9]; exact hP, va_K.moved hW9.alike hK⟩, hS.F ht9⟩) hS.2.2 dX0_both_143
      · have hkx : kx = 4 := by omega
        have hky : ky = 4 := by omega
        have mvis := vis_1 hv hi.1 hj.1 (Or.inr ⟨by omega, by omega⟩)
        have hvc := mvis
        have hbc := hLC (i + 1) (j + 1) hvc (Or.inl (by omega))
        rw [← Int.add_assoc] at hbc
        unfold bnd at hbc
        have hvc1 := hvc.1
        have mlc := mulC (i := i + 1) (s := μ 41 3) (by omega) (by omega) (by omega) (by omega)
        have hcv := hLCv (i + 1) (j + 1) hvc (Or.inl (by omega))
        rw [← Int.add_assoc] at hcv
        rw [show sub w (i + 1).toNat = lx by rw [show (i + 1).toNat = i.toNat + 1 by omega]; exact ox (by omega), show sub b (j + 1).toNat = ly by rw [show (j + 1).toNat = j.toNat + 1 by omega]; exact oy (by omega)] at hcv
        have hcve := enc_16 lx ly
        refine lv_aload_n hx hb dX0_both_82 rfl (lv_at hl 2 rfl) ?_
        refine fz_get (D := (dC, dI)) (ci := 0) (v := .ref (h0 + 42)) (C := RX0) (T := TX0) (N := 7) hx hb hts inG0 hown hK hP (k := 41) (by decide) (F := (sF41 h0)) sE_41 rfl 0 (by decide) (hts _ k182) (fun _ h9 => h9) rfl dX0_both_83 ?_
        refine lv_iload_n hx hb dX0_both_86 rfl (lv_at hl 5 rfl) ?_
        refine lv_iconst (v := iZ 1) hx hb dX0_both_87 rfl ?_
        refine lv_iadd hx hb dX0_both_88 ?_
        refine lv_topi (fun x9 ex9 => ?_)
        obtain rfl : x9 = iZ (i + 1) := ex9.trans (iZ_add _ _)
        refine lv_aload_n hx hb dX0_both_89 rfl (lv_at hl 2 rfl) ?_
        refine fz_get (D := (dC, dI)) (ci := 0) (v := .int (iZ (μ 41 3))) (C := RX0) (T := TX0) (N := 7) hx hb hts inG0 hown hK hP (k := 41) (by decide) (F := (sF41 h0)) sE_41 rfl 3 (by decide) (hts _ k185) (fun _ h9 => h9) rfl dX0_both_90 ?_
        refine lv_imul hx hb dX0_both_93 ?_
        refine lv_topi (fun x9 ex9 => ?_)
        obtain rfl : x9 = iZ ((i + 1) * (μ 41 3)) := ex9.trans (iZ_mul _ _)
        refine lv_iload hx hb dX0_both_94 (lv_at hl 6 rfl) ?_
        refine lv_iadd hx hb dX0_both_96 ?_
        refine lv_topi (fun x9 ex9 => ?_)
        obtain rfl : x9 = iZ (((i + 1) * (μ 41 3)) + j) := ex9.trans (iZ_add _ _)
        refine lv_iconst (v := iZ 1) hx hb dX0_both_97 rfl ?_
        refine lv_iadd hx hb dX0_both_98 ?_
        refine lv_topi (fun x9 ex9 => ?_)
        obtain rfl : x9 = iZ ((((i + 1) * (μ 41 3)) + j) + 1) := ex9.trans (iZ_add _ _)
        refine fz_ld (k := 42) (n := 106797) hx hb hK hP 0 (by decide) sE_42 rfl ⟨by omega, by omega⟩ (by decide) dX0_both_99 ?_
        refine lv_istore (lv' := [(7, .int (iZ (μ 42 ((((i + 1) * (μ 41 3)) + j) + 1).toNat))), (6, .int (iZ (μ (q2 + 1) (j).toNat))), (5, .int (iZ (μ (q + 1) (i).toNat))), (0, .ref (h0 + 41)), (1, .ref (h0 + q)), (2, .ref (h0 + q2)), (3, .int (iZ (i))), (4, .int (iZ (j)))]) hx hb dX0_both_100 hl (by decide) rfl (fun ls hl => ?_)
        refine lv_iload hx hb dX0_both_102 (lv_at hl 0 rfl) ?_
        refine lv_iconst (v := iZ 1) hx hb dX0_both_104 rfl ?_
        refine lv_iand hx hb dX0_both_105 ?_
        refine lv_topi (fun x9 ex9 => ?_)
        obtain ⟨z3, rfl, hz3⟩ := iZ_ex x9
        have ez3 := ex9; clear ex9
        have ha1 := and1 hz3 (by omega) ez3
        refine fz_if_ne (tgt := 141) (by exact hz3) hx hb dX0_both_106 (by decide) (fun c106_ => ?_) (fun c106_ => ?_)
        · refine lv_ldc (v := iZ 268435456) hx hb hown (hts _ k778) dX0_both_141 ?_
          exact W.iret (v := iZ (268435456)) hx hb hr (fun t9 ht9 hW9 => ⟨⟨iZ (268435456), (μ, 268435456), rfl, ⟨rfl, (by
                            dsimp only
                            have q9 := (ck1_op (z := zx) (z2 := zy) (v := vx) (v2 := vy) (r := rx) (r2 := ry) (by omega) hB9).2.1 hkx hky (by omega)
                            refine ⟨rfl, ?_⟩
                            rw [ex, ey, q9])⟩, by rw [ht9]; exact hP, va_K.moved hW9.alike hK⟩, hS.F ht9⟩) hS.2.2 dX0_both_143
        · refine lv_iload hx hb dX0_both_109 (lv_at hl 0 rfl) ?_
          refine lv_iconst (v := iZ 4) hx hb dX0_both_111 rfl ?_
          refine lv_ishr hx hb dX0_both_112 ?_
          refine lv_topi (fun x9 ex9 => ?_)
          obtain ⟨z4, rfl, hz4⟩ := iZ_ex x9
          have ez4 := ex9; clear ex9
          have hs4 := shr4 hz4 (by constructor <;> omega) ez4
          refine lv_iconst (v := iZ 1) hx hb dX0_both_113 rfl ?_
          refine lv_aload_n hx hb dX0_both_114 rfl (lv_at hl 3 rfl) ?_
          refine fz_get (D := (dC, dI)) (ci := 0) (v := .ref (h0 + 42)) (C := RX0) (T := TX0) (N := 7) hx hb hts inG0 hown hK hP (k := 41) (by decide) (F := (sF41 h0)) sE_41 rfl 0 (by decide) (hts _ k182) (fun _ h9 => h9) rfl dX0_both_115 ?_
          refine lv_aload_n hx hb dX0_both_118 rfl (lv_at hl 4 rfl) ?_
          refine lv_iload_n hx hb dX0_both_119 rfl (lv_at hl 6 rfl) ?_
          refine va_calli (va_runV (As := [.int (iZ (i))]) (rest := [.ref (h0 + 42), .int (iZ (1)), .int (iZ (z4))]) ⟨hx, hb, hml, hown, hts⟩ (s_Rafter l dC dI cI cZ cII cIII h0 H.size μ (q) (rm) (i) (hq) (by first | assumption | omega | exact ⟨by omega, by omega⟩) (by constructor <;> omega)) (cwV 1 hts (gV_G k791 k438 k439 k3 k440) rfl rfl rfl (by decide +kernel) ⟨Nat.le_of_ble_eq_true rfl, Nat.le_of_ble_eq_true rfl⟩) ⟨fun a U g mk q => by obtain ⟨q0, q1, qP, qK, qM⟩ := q; exact ⟨q0, q1, qP, va_K.moved (u := U) (U := U.calling g mk a) (Vm.Alike.refl U.vm) qK, qM⟩, va_recv hK hP (ci := 4) (q0 := q) rfl ((fw_get (by omega)).trans (by rw [(sE_rowO hq)])), fun U hU hW => ⟨rfl, by rw [hU], by rw [hU]; exact hP, va_K.moved hW.alike hK, xM_warm hW hM⟩⟩ rfl rfl hl.1 rfl (lv_room (Nat.le_of_ble_eq_true rfl)) dX0_both_120 ⟨Nat.le_of_ble_eq_true rfl, Nat.le_of_ble_eq_true rfl⟩) hS (fun q _ h => fA_le hS.1 q h) (fA_le hS.1) (fun r9 u9 t9 H1 locs ht9 hvm9 hw9 hB9 hz9 hk9 hS => ?_)
          obtain ⟨μa, ra⟩ := u9
          obtain ⟨hP, -⟩ := hB9
          rw [ht9] at hP
          generalize H1 = H at hP hS ⊢
          obtain ⟨e9, hw9⟩ := hw9
          have e9 : r9 = iZ ra := e9
          subst e9
          simp only at hP hw9
          have hμa := hw9; clear hw9
          rw [hμa.1] at hP; have hμa := hμa.2
          have hra := hμa
          refine lv_aload_n hx hb dX0_both_123 rfl (lv_at hl 3 rfl) ?_
          refine fz_get (D := (dC, dI)) (ci := 0) (v := .int (iZ (μ 41 3))) (C := RX0) (T := TX0) (N := 7) hx hb hts inG0 hown hK hP (k := 41) (by decide) (F := (sF41 h0)) sE_41 rfl 3 (by decide) (hts _ k185) (fun _ h9 => h9) rfl dX0_both_124 ?_
          refine lv_imul hx hb dX0_both_127 ?_
          refine lv_topi (fun x9 ex9 => ?_)
          obtain rfl : x9 = iZ (ra * (μ 41 3)) := ex9.trans (iZ_mul _ _)
          refine lv_aload_n hx hb dX0_both_128 rfl (lv_at hl 5 rfl) ?_
          refine lv_iload hx hb dX0_both_129 (lv_at hl 7 rfl) ?_
          refine va_calli (va_runV (As := [.int (iZ (j))]) (rest := [.int (iZ (ra * (μ 41 3))), .ref (h0 + 42), .int (iZ (1)), .int (iZ (z4))]) ⟨hx, hb, hml, hown, hts⟩ (s_Rafter l dC dI cI cZ cII cIII h0 H.size μ (q2) (rm2) (j) (hq2) (by first | assumption | omega | exact ⟨by omega, by omega⟩) (by constructor <;> omega)) (cwV 1 hts (gV_G k791 k438 k439 k3 k440) rfl rfl rfl (by decide +kernel) ⟨Nat.le_of_ble_eq_true rfl, Nat.le_of_ble_eq_true rfl⟩) ⟨fun a U g mk q => by obtain ⟨q0, q1, qP, qK, qM⟩ := q; exact ⟨q0, q1, qP, va_K.moved (u := U) (U := U.calling g mk a) (Vm.Alike.refl U.vm) qK, qM⟩, va_recv hK hP (ci := 4) (q0 := q2) rfl ((fw_get (by omega)).trans (by rw [(sE_rowO hq2)])), fun U hU hW => ⟨rfl, by rw [hU], by rw [hU]; exact hP, va_K.moved hW.alike hK, xM_warm hW hM⟩⟩ rfl rfl hl.1 rfl (lv_room (Nat.le_of_ble_eq_true rfl)) dX0_both_131 ⟨Nat.le_of_ble_eq_true rfl, Nat.le_of_ble_eq_true rfl⟩) hS (fun q _ h => fA_le hS.1 q h) (fA_le hS.1) (fun r9 u9 t9 H1 locs ht9 hvm9 hw9 hB9 hz9 hk9 hS => ?_)
          obtain ⟨μb, rb⟩ := u9
          obtain ⟨hP, -⟩ := hB9
          rw [ht9] at hP
          generalize H1 = H at hP hS ⊢
          obtain ⟨e9, hw9⟩ := hw9
          have e9 : r9 = iZ rb := e9
          subst e9
          simp only at hP hw9
          have hμb := hw9; clear hw9
          rw [hμb.1] at hP; have hμb := hμb.2
          have hrb := hμb
          have _ := hrb
          obtain ⟨y1_, y2_, y3_⟩ := vis_4 hG hv hi.1 hi.2
          have hvd := vis_1b hG hG2 hv hi.1 hj.1 (by omega) (by omega)
          rw [← hra, ← hrb] at hvd
          have hbd := hLC (ra) (rb) hvd (Or.inl (by omega))
          unfold bnd at hbd
          have hvd1 := hvd.1
          have mld := mulC (i := ra) (s := μ 41 3) (by omega) (by omega) (by omega) (by omega)
          have hdv := hLCv ra rb hvd (Or.inl (by omega))
          rw [show ra.toNat = i.toNat + dx by omega, show rb.toNat = j.toNat + dy by omega, nx, ny] at hdv
          have hdve := enc_16 rx ry
          refine lv_iadd hx hb dX0_both_134 ?_
          refine lv_topi (fun x9 ex9 => ?_)
          obtain rfl : x9 = iZ ((ra * (μ 41 3)) + rb) := ex9.trans (iZ_add _ _)
          refine fz_ld (k := 42) (n := 106797) hx hb hK hP 0 (by decide) sE_42 rfl ⟨by omega, by omega⟩ (by decide) dX0_both_135 ?_
          refine lv_iconst (v := iZ 0) hx hb dX0_both_136 rfl ?_
          refine va_calli (va_runS (As := [.int (iZ (z4)), .int (iZ (1)), .int (iZ (μ 42 ((ra * (μ 41 3)) + rb).toNat)), .int (iZ (0))]) (rest := []) ⟨hx, hb, hml, hown, hts⟩ (s_Ypacked l dC dI cI cZ cII cIII h0 H.size μ (z4) (1) (μ 42 ((ra * (μ 41 3)) + rb).toNat) (0) (by first | assumption | omega | exact ⟨by omega, by omega⟩) (by first | assumption | omega | exact ⟨by omega, by omega⟩) (by first | assumption | omega | exact ⟨by omega, by omega⟩) (by first | assumption | omega | exact ⟨by omega, by omega⟩)) (cwS 4 hts (gS_G k788 k789 k7 k790) rfl rfl rfl (by decide +kernel) ⟨Nat.le_of_ble_eq_true rfl, Nat.le_of_ble_eq_true rfl⟩) ⟨fun a U g mk q => by obtain ⟨q0, q1, qP, qK, qM⟩ := q; exact ⟨q0, q1, qP, va_K.moved (u := U) (U := U.calling g mk a) (Vm.Alike.refl U.vm) qK, qM⟩, fun U hU hW => ⟨rfl, by rw [hU], by rw [hU]; exact hP, va_K.moved hW.alike hK, xM_warm hW hM⟩⟩ rfl rfl hl.1 rfl (lv_room (Nat.le_of_ble_eq_true rfl)) dX0_both_137 ⟨Nat.le_of_ble_eq_true rfl, Nat.le_of_ble_eq_true rfl⟩) hS (fun q _ h => fA_le hS.1 q h) (fA_le hS.1) (fun r9 u9 t9 H1 locs ht9 hvm9 hw9 hB9 hz9 hk9 hS => ?_)
          obtain ⟨μp, rp⟩ := u9
          obtain ⟨hP, -⟩ := hB9
          rw [ht9] at hP
          generalize H1 = H at hP hS ⊢
          obtain ⟨e9, hw9⟩ := hw9
          have e9 : r9 = iZ rp := e9
          subst e9
          simp only at hP hw9
          have hμp := hw9; clear hw9
          rw [hμp.1] at hP; have hμp := hμp.2
          have hrp := hμp.1 trivial
          exact W.iret (v := iZ (rp)) hx hb hr (fun t9 ht9 hW9 => ⟨⟨iZ (rp), (μ, rp), rfl, ⟨rfl, (by
                            dsimp only
                            have q9 := (ck1_op (z := zx) (z2 := zy) (v := vx) (v2 := vy) (r := rx) (r2 := ry) (by omega) hB9).1 hkx hky (by omega)
                            refine ⟨rfl, ?_⟩
                            rw [ex, ey, q9]
                            omega)⟩, by rw [ht9]; exact hP, va_K.moved hW9.alike hK⟩, hS.F ht9⟩) hS.2.2 dX0_both_140
  · refine lv_iload hx hb dX0_both_25 (lv_at hl 1 rfl) ?_
    refine lv_iload hx hb dX0_both_27 (lv_at hl 0 rfl) ?_
    refine va_calli (va_runSN (As := [.int (iZ (μ (q + 1) (i).toNat)), .int (iZ (μ (q2 + 1) (j).toNat))]) (rest := []) ⟨hx, hb, hml, hown, hts⟩ (s_areAlike l dC dI cI cZ cII cIII h0 H.size μ (μ (q + 1) (i).toNat) (μ (q2 + 1) (j).toNat) (by first | assumption | omega | exact ⟨by omega, by omega⟩) (by first | assumption | omega | exact ⟨by omega, by omega⟩)) ⟨va_cnB (host := "PageSkeleton") 2 hts (gI_G k447) rfl rfl rfl (xM_nest hM 15 rfl) (hts _ k1) (by decide +kernel) ⟨Nat.le_of_ble_eq_true rfl, Nat.le_of_ble_eq_true rfl⟩, hts _ k446, trivial⟩ ⟨fun a U g mk q => by obtain ⟨q0, q1, qP, qK, qM⟩ := q; exact ⟨q0, q1, qP, va_K.moved (u := U) (U := U.calling g mk a) (Vm.Alike.refl U.vm) qK, qM⟩, fun U hU hW => ⟨rfl, by rw [hU], by rw [hU]; exact hP, va_K.moved hW.alike hK, xM_warm hW hM⟩⟩ rfl rfl hl.1 rfl (lv_room (Nat.le_of_ble_eq_true rfl)) dX0_both_29 ⟨Nat.le_of_ble_eq_true rfl, Nat.le_of_ble_eq_true rfl⟩) hS (fun q _ h => fA_le hS.1 q h) (fA_le hS.1) (fun r9 u9 t9 H1 locs ht9 hvm9 hw9 hB9 hz9 hk9 hS => ?_)
    obtain ⟨μ5, r6⟩ := u9
    obtain ⟨hP, -⟩ := hB9
    rw [ht9] at hP
    generalize H1 = H at hP hS ⊢
    obtain ⟨e9, hw9⟩ := hw9
    have e9 : r9 = iZ r6 := e9
    subst e9
    simp only at hP hw9
    have hμ5 := hw9; clear hw9
    rw [hμ5.1] at hP; have hμ5 := hμ5.2
    have hal := if_al hμ5
    have hal01 : r6 = 0 ∨ r6 = 1 := hal.elim (fun h => Or.inr h.1) (fun h => Or.inl h.1)
    refine fz_if_eq (tgt := 66) (by constructor <;> omega) hx hb dX0_both_32 (by decide) (fun c32_ => ?_) (fun c32_ => ?_)
    · refine lv_iload hx hb dX0_both_66 (lv_at hl 1 rfl) ?_
      refine lv_sipush (v := iZ 514) hx hb dX0_both_68 rfl ?_
      refine fz_icmp_ne (tgt := 141) (by constructor <;> omega) (by decide) hx hb dX0_both_71 (by decide) (fun c71_ => ?_) (fun c71_ => ?_)
      · refine lv_ldc (v := iZ 268435456) hx hb hown (hts _ k778) dX0_both_141 ?_
        exact W.iret (v := iZ (268435456)) hx hb hr (fun t9 ht9 hW9 => ⟨⟨iZ (268435456), (μ, 268435456), rfl, ⟨rfl, (by
                        dsimp only
                        have hal0 := hal.elim (fun h => absurd h.1 (by omega)) (fun h => h.2)
                        have q9 := (ck1_lf (z := zx) (z2 := zy) (r := rx) (r2 := ry) wx.1 wy.1 (by omega) hB9).2 (by rw [← sx, ← sy]; exact hal0)
                        refine ⟨rfl, ?_⟩
                        rw [ex, ey, q9])⟩, by rw [ht9]; exact hP, va_K.moved hW9.alike hK⟩, hS.F ht9⟩) hS.2.2 dX0_both_143
      · refine lv_iload hx hb dX0_both_74 (lv_at hl 0 rfl) ?_
        refine lv_sipush (v := iZ 514) hx hb dX0_both_76 rfl ?_
        refine fz_icmp_ne (tgt := 141) (by constructor <;> omega) (by decide) hx hb dX0_both_79 (by decide) (fun c79_ => ?_) (fun c79_ => ?_)
        · refine lv_ldc (v := iZ 268435456) hx hb hown (hts _ k778) dX0_both_141 ?_
          exact W.iret (v := iZ (268435456)) hx hb hr (fun t9 ht9 hW9 => ⟨⟨iZ (268435456), (μ, 268435456), rfl, ⟨rfl, (by
                            dsimp only
                            exfalso
                            omega)⟩, by rw [ht9]; exact hP, va_K.moved hW9.alike hK⟩, hS.F ht9⟩) hS.2.2 dX0_both_143
        · have hkx : kx = 4 := by omega
          have hky : ky = 4 := by omega
          have mvis := vis_1 hv hi.1 hj.1 (Or.inr ⟨by omega, by omega⟩)
          have hvc := mvis
          have hbc := hLC (i + 1) (j + 1) hvc (Or.inl (by omega))
          rw [← Int.add_assoc] at hbc
          unfold bnd at hbc
          have hvc1 := hvc.1
          have mlc := mulC (i := i + 1) (s := μ 41 3) (by omega) (by omega) (by omega) (by omega)
          have hcv := hLCv (i + 1) (j + 1) hvc (Or.inl (by omega))
          rw [← Int.add_assoc] at hcv
          rw [show sub w (i + 1).toNat = lx by rw [show (i + 1).toNat = i.toNat + 1 by omega]; exact ox (by omega), show sub b (j + 1).toNat = ly by rw [show (j + 1).toNat = j.toNat + 1 by omega]; exact oy (by omega)] at hcv
          have hcve := enc_16 lx ly
          refine lv_aload_n hx hb dX0_both_82 rfl (lv_at hl 2 rfl) ?_
          refine fz_get (D := (dC, dI)) (ci := 0) (v := .ref (h0 + 42)) (C := RX0) (T := TX0) (N := 7) hx hb hts inG0 hown hK hP (k := 41) (by decide) (F := (sF41 h0)) sE_41 rfl 0 (by decide) (hts _ k182) (fun _ h9 => h9) rfl dX0_both_83 ?_
          refine lv_iload_n hx hb dX0_both_86 rfl (lv_at hl 5 rfl) ?_
          refine lv_iconst (v := iZ 1) hx hb dX0_both_87 rfl ?_
          refine lv_iadd hx hb dX0_both_88 ?_
          refine lv_topi (fun x9 ex9 => ?_)
          obtain rfl : x9 = iZ (i + 1) := ex9.trans (iZ_add _ _)
          refine lv_aload_n hx hb dX0_both_89 rfl (lv_at hl 2 rfl) ?_
          refine fz_get (D := (dC, dI)) (ci := 0) (v := .int (iZ (μ 41 3))) (C := RX0) (T := TX0) (N := 7) hx hb hts inG0 hown hK hP (k := 41) (by decide) (F := (sF41 h0)) sE_41 rfl 3 (by decide) (hts _ k185) (fun _ h9 => h9) rfl dX0_both_90 ?_
          refine lv_imul hx hb dX0_both_93 ?_
          refine lv_topi (fun x9 ex9 => ?_)
          obtain rfl : x9 = iZ ((i + 1) * (μ 41 3)) := ex9.trans (iZ_mul _ _)
          refine lv_iload hx hb dX0_both_94 (lv_at hl 6 rfl) ?_
          refine lv_iadd hx hb dX0_both_96 ?_
          refine lv_topi (fun x9 ex9 => ?_)
          obtain rfl : x9 = iZ (((i + 1) * (μ 41 3)) + j) := ex9.trans (iZ_add _ _)
          refine lv_iconst (v := iZ 1) hx hb dX0_both_97 rfl ?_
          refine lv_iadd hx hb dX0_both_98 ?_
          refine lv_topi (fun x9 ex9 => ?_)
          obtain rfl : x9 = iZ ((((i + 1) * (μ 41 3)) + j) + 1) := ex9.trans (iZ_add _ _)
          refine fz_ld (k := 42) (n := 106797) hx hb hK hP 0 (by decide) sE_42 rfl ⟨by omega, by omega⟩ (by decide) dX0_both_99 ?_
          refine lv_istore (lv' := [(7, .int (iZ (μ 42 ((((i + 1) * (μ 41 3)) + j) + 1).toNat))), (6, .int (iZ (μ (q2 + 1) (j).toNat))), (5, .int (iZ (μ (q + 1) (i).toNat))), (0, .ref (h0 + 41)), (1, .ref (h0 + q)), (2, .ref (h0 + q2)), (3, .int (iZ (i))), (4, .int (iZ (j)))]) hx hb dX0_both_100 hl (by decide) rfl (fun ls hl => ?_)
          refine lv_iload hx hb dX0_both_102 (lv_at hl 0 rfl) ?_
          refine lv_iconst (v := iZ 1) hx hb dX0_both_104 rfl ?_
          refine lv_iand hx hb dX0_both_105 ?_
          refine lv_topi (fun x9 ex9 => ?_)
          obtain ⟨z7, rfl, hz7⟩ := iZ_ex x9
          have ez7 := ex9; clear ex9
          have ha1 := and1 hz7 (by omega) ez7
          refine fz_if_ne (tgt := 141) (by exact hz7) hx hb dX0_both_106 (by decide) (fun c106_ => ?_) (fun c106_ => ?_)
          · refine lv_ldc (v := iZ 268435456) hx hb hown (hts _ k778) dX0_both_141 ?_
            exact W.iret (v := iZ (268435456)) hx hb hr (fun t9 ht9 hW9 => ⟨⟨iZ (268435456), (μ, 268435456), rfl, ⟨rfl, (by
                                dsimp only
                                exfalso
                                omega)⟩, by rw [ht9]; exact hP, va_K.moved hW9.alike hK⟩, hS.F ht9⟩) hS.2.2 dX0_both_143
          · refine lv_iload hx hb dX0_both_109 (lv_at hl 0 rfl) ?_
            refine lv_iconst (v := iZ 4) hx hb dX0_both_111 rfl ?_
            refine lv_ishr hx hb dX0_both_112 ?_
            refine lv_topi (fun x9 ex9 => ?_)
            obtain ⟨z8, rfl, hz8⟩ := iZ_ex x9
            have ez8 := ex9; clear ex9
            have hs4 := shr4 hz8 (by constructor <;> omega) ez8
            refine lv_iconst (v := iZ 1) hx hb dX0_both_113 rfl ?_
            refine lv_aload_n hx hb dX0_both_114 rfl (lv_at hl 3 rfl) ?_
            refine fz_get (D := (dC, dI)) (ci := 0) (v := .ref (h0 + 42)) (C := RX0) (T := TX0) (N := 7) hx hb hts inG0 hown hK hP (k := 41) (by decide) (F := (sF41 h0)) sE_41 rfl 0 (by decide) (hts _ k182) (fun _ h9 => h9) rfl dX0_both_115 ?_
            refine lv_aload_n hx hb dX0_both_118 rfl (lv_at hl 4 rfl) ?_
            refine lv_iload_n hx hb dX0_both_119 rfl (lv_at hl 6 rfl) ?_
            refine va_calli (va_runV (As := [.int (iZ (i))]) (rest := [.ref (h0 + 42), .int (iZ (1)), .int (iZ (z8))]) ⟨hx, hb, hml, hown, hts⟩ (s_Rafter l dC dI cI cZ cII cIII h0 H.size μ (q) (rm) (i) (hq) (by first | assumption | omega | exact ⟨by omega, by omega⟩) (by constructor <;> omega)) (cwV 1 hts (gV_G k791 k438 k439 k3 k440) rfl rfl rfl (by decide +kernel) ⟨Nat.le_of_ble_eq_true rfl, Nat.le_of_ble_eq_true rfl⟩) ⟨fun a U g mk q => by obtain ⟨q0, q1, qP, qK, qM⟩ := q; exact ⟨q0, q1, qP, va_K.moved (u := U) (U := U.calling g mk a) (Vm.Alike.refl U.vm) qK, qM⟩, va_recv hK hP (ci := 4) (q0 := q) rfl ((fw_get (by omega)).trans (by rw [(sE_rowO hq)])), fun U hU hW => ⟨rfl, by rw [hU], by rw [hU]; exact hP, va_K.moved hW.alike hK, xM_warm hW hM⟩⟩ rfl rfl hl.1 rfl (lv_room (Nat.le_of_ble_eq_true rfl)) dX0_both_120 ⟨Nat.le_of_ble_eq_true rfl, Nat.le_of_ble_eq_true rfl⟩) hS (fun q _ h => fA_le hS.1 q h) (fA_le hS.1) (fun r9 u9 t9 H1 locs ht9 hvm9 hw9 hB9 hz9 hk9 hS => ?_)
            obtain ⟨μa, ra⟩ := u9
            obtain ⟨hP, -⟩ := hB9
            rw [ht9] at hP
            generalize H1 = H at hP hS ⊢
            obtain ⟨e9, hw9⟩ := hw9
            have e9 : r9 = iZ ra := e9
            subst e9
            simp only at hP hw9
            have hμa := hw9; clear hw9
            rw [hμa.1] at hP; have hμa := hμa.2
            have hra := hμa
            refine lv_aload_n hx hb dX0_both_123 rfl (lv_at hl 3 rfl) ?_
            refine fz_get (D := (dC, dI)) (ci := 0) (v := .int (iZ (μ 41 3))) (C := RX0) (T := TX0) (N := 7) hx hb hts inG0 hown hK hP (k := 41) (by decide) (F := (sF41 h0)) sE_41 rfl 3 (by decide) (hts _ k185) (fun _ h9 => h9) rfl dX0_both_124 ?_
            refine lv_imul hx hb dX0_both_127 ?_
            refine lv_topi (fun x9 ex9 => ?_)
            obtain rfl : x9 = iZ (ra * (μ 41 3)) := ex9.trans (iZ_mul _ _)
            refine lv_aload_n hx hb dX0_both_128 rfl (lv_at hl 5 rfl) ?_
            refine lv_iload hx hb dX0_both_129 (lv_at hl 7 rfl) ?_
            refine va_calli (va_runV (As := [.int (iZ (j))]) (rest := [.int (iZ (ra * (μ 41 3))), .ref (h0 + 42), .int (iZ (1)), .int (iZ (z8))]) ⟨hx, hb, hml, hown, hts⟩ (s_Rafter l dC dI cI cZ cII cIII h0 H.size μ (q2) (rm2) (j) (hq2) (by first | assumption | omega | exact ⟨by omega, by omega⟩) (by constructor <;> omega)) (cwV 1 hts (gV_G k791 k438 k439 k3 k440) rfl rfl rfl (by decide +kernel) ⟨Nat.le_of_ble_eq_true rfl, Nat.le_of_ble_eq_true rfl⟩) ⟨fun a U g mk q => by obtain ⟨q0, q1, qP, qK, qM⟩ := q; exact ⟨q0, q1, qP, va_K.moved (u := U) (U := U.calling g mk a) (Vm.Alike.refl U.vm) qK, qM⟩, va_recv hK hP (ci := 4) (q0 := q2) rfl ((fw_get (by omega)).trans (by rw [(sE_rowO hq2)])), fun U hU hW => ⟨rfl, by rw [hU], by rw [hU]; exact hP, va_K.moved hW.alike hK, xM_warm hW hM⟩⟩ rfl rfl hl.1 rfl (lv_room (Nat.le_of_ble_eq_true rfl)) dX0_both_131 ⟨Nat.le_of_ble_eq_true rfl, Nat.le_of_ble_eq_true rfl⟩) hS (fun q _ h => fA_le hS.1 q h) (fA_le hS.1) (fun r9 u9 t9 H1 locs ht9 hvm9 hw9 hB9 hz9 hk9 hS => ?_)
            obtain ⟨μb, rb⟩ := u9
            obtain ⟨hP, -⟩ := hB9
            rw [ht9] at hP
            generalize H1 = H at hP hS ⊢
            obtain ⟨e9, hw9⟩ := hw9
            have e9 : r9 = iZ rb := e9
            subst e9
            simp only at hP hw9
            have hμb := hw9; clear hw9
            rw [hμb.1] at hP; have hμb := hμb.2
            have hrb := hμb
            have _ := hrb
            obtain ⟨y1_, y2_, y3_⟩ := vis_4 hG hv hi.1 hi.2
            have hvd := vis_1b hG hG2 hv hi.1 hj.1 (by omega) (by omega)
            rw [← hra, ← hrb] at hvd
            have hbd := hLC (ra) (rb) hvd (Or.inl (by omega))
            unfold bnd at hbd
            have hvd1 := hvd.1
            have mld := mulC (i := ra) (s := μ 41 3) (by omega) (by omega) (by omega) (by omega)
            have hdv := hLCv ra rb hvd (Or.inl (by omega))
            rw [show ra.toNat = i.toNat + dx by omega, show rb.toNat = j.toNat + dy by omega, nx, ny] at hdv
            have hdve := enc_16 rx ry
            refine lv_iadd hx hb dX0_both_134 ?_
            refine lv_topi (fun x9 ex9 => ?_)
            obtain rfl : x9 = iZ ((ra * (μ 41 3)) + rb) := ex9.trans (iZ_add _ _)
            refine fz_ld (k := 42) (n := 106797) hx hb hK hP 0 (by decide) sE_42 rfl ⟨by omega, by omega⟩ (by decide) dX0_both_135 ?_
            refine lv_iconst (v := iZ 0) hx hb dX0_both_136 rfl ?_
            refine va_calli (va_runS (As := [.int (iZ (z8)), .int (iZ (1)), .int (iZ (μ 42 ((ra * (μ 41 3)) + rb).toNat)), .int (iZ (0))]) (rest := []) ⟨hx, hb, hml, hown, hts⟩ (s_Ypacked l dC dI cI cZ cII cIII h0 H.size μ (z8) (1) (μ 42 ((ra * (μ 41 3)) + rb).toNat) (0) (by first | assumption | omega | exact ⟨by omega, by omega⟩) (by first | assumption | omega | exact ⟨by omega, by omega⟩) (by first | assumption | omega | exact ⟨by omega, by omega⟩) (by first | assumption | omega | exact ⟨by omega, by omega⟩)) (cwS 4 hts (gS_G k788 k789 k7 k790) rfl rfl rfl (by decide +kernel) ⟨Nat.le_of_ble_eq_true rfl, Nat.le_of_ble_eq_true rfl⟩) ⟨fun a U g mk q => by obtain ⟨q0, q1, qP, qK, qM⟩ := q; exact ⟨q0, q1, qP, va_K.moved (u := U) (U := U.calling g mk a) (Vm.Alike.refl U.vm) qK, qM⟩, fun U hU hW => ⟨rfl, by rw [hU], by rw [hU]; exact hP, va_K.moved hW.alike hK, xM_warm hW hM⟩⟩ rfl rfl hl.1 rfl (lv_room (Nat.le_of_ble_eq_true rfl)) dX0_both_137 ⟨Nat.le_of_ble_eq_true rfl, Nat.le_of_ble_eq_true rfl⟩) hS (fun q _ h => fA_le hS.1 q h) (fA_le hS.1) (fun r9 u9 t9 H1 locs ht9 hvm9 hw9 hB9 hz9 hk9 hS => ?_)
            obtain ⟨μp, rp⟩ := u9
            obtain ⟨hP, -⟩ := hB9
            rw [ht9] at hP
            generalize H1 = H at hP hS ⊢
            obtain ⟨e9, hw9⟩ := hw9
            have e9 : r9 = iZ rp := e9
            subst e9
            simp only at hP hw9
            have hμp := hw9; clear hw9
            rw [hμp.1] at hP; have hμp := hμp.2
            have hrp := hμp.1 trivial
            exact W.iret (v := iZ (rp)) hx hb hr (fun t9 ht9 hW9 => ⟨⟨iZ (rp), (μ, rp), rfl, ⟨rfl, (by
                                dsimp only
                                have q9 := (ck1_op (z := zx) (z2 := zy) (v := vx) (v2 := vy) (r := rx) (r2 := ry) (by omega) hB9).1 hkx hky (by omega)
                                refine ⟨rfl, ?_⟩
                                rw [ex, ey, q9]
                                omega)⟩, by rw [ht9]; exact hP, va_K.moved hW9.alike hK⟩, hS.F ht9⟩) hS.2.2 dX0_both_140
    · have hal1 := hal.elim (fun h => h.2) (fun h => absurd h.1 (by omega))
      have hkx : kx < 3 ∧ dx = 1 := by omega
      have hky : ky < 3 ∧ dy = 1 := by unfold sAl at hal1; omega
      have mvis := vis_1 hv hi.1 hj.1 (Or.inl ⟨by omega, hal1⟩)
      refine lv_iload hx hb dX0_both_35 (lv_at hl 1 rfl) ?_
      refine lv_iload hx hb dX0_both_37 (lv_at hl 0 rfl) ?_
      refine va_calli (va_runSN (As := [.int (iZ (μ (q + 1) (i).toNat)), .int (iZ (μ (q2 + 1) (j).toNat))]) (rest := []) ⟨hx, hb, hml, hown, hts⟩ (s_costOfFusing l dC dI cI cZ cII cIII h0 H.size μ (μ (q + 1) (i).toNat) (μ (q2 + 1) (j).toNat) (by first | assumption | omega | exact ⟨by omega, by omega⟩) (by first | assumption | omega | exact ⟨by omega, by omega⟩)) ⟨va_cnB (host := "PageSkeleton") 2 hts (gI_G k787) rfl rfl rfl (xM_nest hM 16 rfl) (hts _ k1) (by decide +kernel) ⟨Nat.le_of_ble_eq_true rfl, Nat.le_of_ble_eq_true rfl⟩, hts _ k786, trivial⟩ ⟨fun a U g mk q => by obtain ⟨q0, q1, qP, qK, qM⟩ := q; exact ⟨q0, q1, qP, va_K.moved (u := U) (U := U.calling g mk a) (Vm.Alike.refl U.vm) qK, qM⟩, fun U hU hW => ⟨rfl, by rw [hU], by rw [hU]; exact hP, va_K.moved hW.alike hK, xM_warm hW hM⟩⟩ rfl rfl hl.1 rfl (lv_room (Nat.le_of_ble_eq_true rfl)) dX0_both_39 ⟨Nat.le_of_ble_eq_true rfl, Nat.le_of_ble_eq_true rfl⟩) hS (fun q _ h => fA_le hS.1 q h) (fA_le hS.1) (fun r9 u9 t9 H1 locs ht9 hvm9 hw9 hB9 hz9 hk9 hS => ?_)
      obtain ⟨μc, rc⟩ := u9
      obtain ⟨hP, -⟩ := hB9
      rw [ht9] at hP
      generalize H1 = H at hP hS ⊢
      obtain ⟨e9, hw9⟩ := hw9
      have e9 : r9 = iZ rc := e9
      subst e9
      simp only at hP hw9
      have hμc := hw9; clear hw9
      rw [hμc.1] at hP; have hμc := hμc.2
      have hrc : rc = sCo (μ (q + 1) i.toNat) (μ (q2 + 1) j.toNat) := hμc
      have hcb := sCo_01 (μ (q + 1) i.toNat) (μ (q2 + 1) j.toNat)
      have hvc := mvis
      have hbc := hLC (i + 1) (j + 1) hvc (Or.inl (by omega))
      rw [← Int.add_assoc] at hbc
      unfold bnd at hbc
      have hvc1 := hvc.1
      have mlc := mulC (i := i + 1) (s := μ 41 3) (by omega) (by omega) (by omega) (by omega)
      have hcv := hLCv (i + 1) (j + 1) hvc (Or.inl (by omega))
      rw [← Int.add_assoc] at hcv
      rw [show sub w (i + 1).toNat = rx by rw [show (i + 1).toNat = i.toNat + dx by omega]; exact nx, show sub b (j + 1).toNat = ry by rw [show (j + 1).toNat = j.toNat + dy by omega]; exact ny] at hcv
      have hcve := enc_16 rx ry
      refine lv_iconst (v := iZ 1) hx hb dX0_both_42 rfl ?_
      refine lv_aload_n hx hb dX0_both_43 rfl (lv_at hl 2 rfl) ?_
      refine fz_get (D := (dC, dI)) (ci := 0) (v := .ref (h0 + 42)) (C := RX0) (T := TX0) (N := 7) hx hb hts inG0 hown hK hP (k := 41) (by decide) (F := (sF41 h0)) sE_41 rfl 0 (by decide) (hts _ k182) (fun _ h9 => h9) rfl dX0_both_44 ?_
      refine lv_iload_n hx hb dX0_both_47 rfl (lv_at hl 5 rfl) ?_
      refine lv_iconst (v := iZ 1) hx hb dX0_both_48 rfl ?_
      refine lv_iadd hx hb dX0_both_49 ?_
      refine lv_topi (fun x9 ex9 => ?_)
      obtain rfl : x9 = iZ (i + 1) := ex9.trans (iZ_add _ _)
      refine lv_aload_n hx hb dX0_both_50 rfl (lv_at hl 2 rfl) ?_
      refine fz_get (D := (dC, dI)) (ci := 0) (v := .int (iZ (μ 41 3))) (C := RX0) (T := TX0) (N := 7) hx hb hts inG0 hown hK hP (k := 41) (by decide) (F := (sF41 h0)) sE_41 rfl 3 (by decide) (hts _ k185) (fun _ h9 => h9) rfl dX0_both_51 ?_
      refine lv_imul hx hb dX0_both_54 ?_
      refine lv_topi (fun x9 ex9 => ?_)
      obtain rfl : x9 = iZ ((i + 1) * (μ 41 3)) := ex9.trans (iZ_mul _ _)
      refine lv_iload hx hb dX0_both_55 (lv_at hl 6 rfl) ?_
      refine lv_iadd hx hb dX0_both_57 ?_
      refine lv_topi (fun x9 ex9 => ?_)
      obtain rfl : x9 = iZ (((i + 1) * (μ 41 3)) + j) := ex9.trans (iZ_add _ _)
      refine lv_iconst (v := iZ 1) hx hb dX0_both_58 rfl ?_
      refine lv_iadd hx hb dX0_both_59 ?_
      refine lv_topi (fun x9 ex9 => ?_)
      obtain rfl : x9 = iZ ((((i + 1) * (μ 41 3)) + j) + 1) := ex9.trans (iZ_add _ _)
      refine fz_ld (k := 42) (n := 106797) hx hb hK hP 0 (by decide) sE_42 rfl ⟨by omega, by omega⟩ (by decide) dX0_both_60 ?_
      refine lv_iconst (v := iZ 0) hx hb dX0_both_61 rfl ?_
      refine va_calli (va_runS (As := [.int (iZ (rc)), .int (iZ (1)), .int (iZ (μ 42 ((((i + 1) * (μ 41 3)) + j) + 1).toNat)), .int (iZ (0))]) (rest := []) ⟨hx, hb, hml, hown, hts⟩ (s_Ypacked l dC dI cI cZ cII cIII h0 H.size μ (rc) (1) (μ 42 ((((i + 1) * (μ 41 3)) + j) + 1).toNat) (0) (by first | assumption | omega | exact ⟨by omega, by omega⟩) (by first | assumption | omega | exact ⟨by omega, by omega⟩) (by first | assumption | omega | exact ⟨by omega, by omega⟩) (by first | assumption | omega | exact ⟨by omega, by omega⟩)) (cwS 4 hts (gS_G k788 k789 k7 k790) rfl rfl rfl (by decide +kernel) ⟨Nat.le_of_ble_eq_true rfl, Nat.le_of_ble_eq_true rfl⟩) ⟨fun a U g mk q => by obtain ⟨q0, q1, qP, qK, qM⟩ := q; exact ⟨q0, q1, qP, va_K.moved (u := U) (U := U.calling g mk a) (Vm.Alike.refl U.vm) qK, qM⟩, fun U hU hW => ⟨rfl, by rw [hU], by rw [hU]; exact hP, va_K.moved hW.alike hK, xM_warm hW hM⟩⟩ rfl rfl hl.1 rfl (lv_room (Nat.le_of_ble_eq_true rfl)) dX0_both_62 ⟨Nat.le_of_ble_eq_true rfl, Nat.le_of_ble_eq_true rfl⟩) hS (fun q _ h => fA_le hS.1 q h) (fA_le hS.1) (fun r9 u9 t9 H1 locs ht9 hvm9 hw9 hB9 hz9 hk9 hS => ?_)
      obtain ⟨μp, rp⟩ := u9
      obtain ⟨hP, -⟩ := hB9
      rw [ht9] at hP
      generalize H1 = H at hP hS ⊢
      obtain ⟨e9, hw9⟩ := hw9
      have e9 : r9 = iZ rp := e9
      subst e9
      simp only at hP hw9
      have hμp := hw9; clear hw9
      rw [hμp.1] at hP; have hμp := hμp.2
      have hrp := hμp.1 trivial
      exact W.iret (v := iZ (rp)) hx hb hr (fun t9 ht9 hW9 => ⟨⟨iZ (rp), (μ, rp), rfl, ⟨rfl, (by
                    dsimp only
                    have q9 := (ck1_lf (z := zx) (z2 := zy) (r := rx) (r2 := ry) wx.1 wy.1 hkx.1 hB9).1 (by rw [← sx, ← sy]; exact hal1)
                    refine ⟨rfl, ?_⟩
                    rw [ex, ey, q9, ← sx, ← sy]
                    omega)⟩, by rw [ht9]; exact hP, va_K.moved hW9.alike hK⟩, hS.F ht9⟩) hS.2.2 dX0_both_65

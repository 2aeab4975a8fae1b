
/-! the class walks a page: the path, told whole -/
/-- on from the beginning or the end of an option or a repeat: where to, and what is counted -/
def chG (μ u : va_M) (q b i : Nat) (bs r : Int) : Prop :=
  (μ (q + 1) i = 513 ∧ μ 46 (bs + i + 1).toNat = 0 ∧ r = μ (q + 2) i + 1 ∧ u = μ) ∨
  (μ (q + 1) i = 513 ∧ ¬ μ 46 (bs + i + 1).toNat = 0 ∧ r = i + 1 ∧ u = uz μ (b + 12) (μ (q + 4) i).toNat (μ (b + 12) (μ (q + 4) i).toNat + 1)) ∨
  (μ (q + 1) i = 514 ∧ r = i + 1 ∧ u = uz (uz μ (b + 12) (μ (q + 4) i).toNat (μ (b + 12) (μ (q + 4) i).toNat + 1)) (b + 13) (μ (q + 4) i).toNat (μ (b + 13) (μ (q + 4) i).toNat + 1)) ∨
  ((¬ μ (q + 1) i = 513 ∧ ¬ μ (q + 1) i = 514) ∧ (μ (q + 1) (μ (q + 2) i).toNat = 514 ∧ 0 < μ 46 (bs + μ (q + 2) i + 1).toNat) ∧ r = μ (q + 2) i + 1 ∧ u = uz μ (b + 13) (μ (q + 4) (μ (q + 2) i).toNat).toNat (μ (b + 13) (μ (q + 4) (μ (q + 2) i).toNat).toNat + 1)) ∨
  ((¬ μ (q + 1) i = 513 ∧ ¬ μ (q + 1) i = 514) ∧ ¬ (μ (q + 1) (μ (q + 2) i).toNat = 514 ∧ 0 < μ 46 (bs + μ (q + 2) i + 1).toNat) ∧ r = i + 1 ∧ u = μ)
/-- what is known of the columns while the class walks -/
def wcOK (μ1 : va_M) (q n : Nat) (Wk : Rw) : Prop := PC (KC μ1 q) (MC μ1 q) (NC μ1 q) Wk 0 0 ∧ (∃ code, wkR (wEi 0) (lfY code n) (enY n) n Wk (wf μ1 Wk)) ∧ (∀ a b : Nat, 0 ≤ wf μ1 Wk a b) ∧ 0 < wf μ1 Wk 0 0
def rnC (μ1 μ : va_M) (q b : Nat) (Wk : Rw) (m x k : Nat) : Prop := rnG (KC μ1 q) (MC μ1 q) (NC μ1 q) (wf μ1 Wk) (μ (b + 12)) (μ (b + 13)) (μ (b + 11)) (fun j => j < rN Wk) (fun j => j < rN Wk) (sL Wk) m x k
theorem wc_run {μ1 μ : va_M} {q b n m x k : Nat} {Wk : Rw} (h : wcOK μ1 q n Wk) (hr : rnC μ1 μ q b Wk m x k) : x ≤ sL Wk ∧ k ≤ n ∧ (x < sL Wk → KC μ1 q x = 0 → k < n) := by
  obtain ⟨h1, ⟨code, h2⟩, h3, h4⟩ := h
  obtain ⟨th, pa, tk, e1, -, -, -, e5⟩ := hr
  have hP := PC_one (a := 0) (b := sL Wk) Wk 0 0 h1 h1 (Nat.le_refl _) (by omega)
  obtain ⟨ls, l1, l2⟩ := wk_ls h2 h1
  have h9 := wrn_ok (L := sL Wk) (n := n) (fun y hy => ⟨(hP y (Nat.zero_le _) (by omega)).2.2.2.1, fun h8 => ((hP y (Nat.zero_le _) (by omega)).2.1 h8).2.2⟩) l1 l2 (fun a b _ _ => h3 a b) h4 m e5
  rw [e1] at h9
  obtain ⟨a1, a2, a3⟩ := h9
  have a1 : x ≤ sL Wk := a1
  have a2 : k ≤ n := a2
  have a3 : 0 < wf μ1 Wk k x := a3
  refine ⟨a1, a2, fun hx h0 => ?_⟩
  have b1 := (l1 k x a2 hx).1 h0
  exact (l2 k x a2 hx h0 (by omega)).1
theorem wc_ch {μ1 μ u : va_M} {q b rm i k m : Nat} {Wk : Rw} {bs r : Int} (hG : rG μ q rm) (h5 : μ q 5 = sL Wk) (hf1 : fr (fun x _ => b + 11 ≤ x ∧ x ≤ b + 13) μ1 μ) (hq : q + 6 ≤ 18) (hb : 113 ≤ b) (hi : i < sL Wk) (hl : ¬ μ (q + 1) i ≤ 512) (hi1 : (bs + i + 1).toNat = k * (sL Wk + 1) + (i + 1)) (hi2 : ((bs + μ (q + 2) i + 1).toNat : Int) = (k * (sL Wk + 1) : Nat) + μ (q + 2) i + 1) (h : rnC μ1 μ q b Wk m i k) (hc : chG μ u q b i bs r) : rnC μ1 u q b Wk (m + 1) r.toNat k := by
  have g1 : ∀ x y : Nat, x < 113 → μ x y = μ1 x y := fun x y hx => hf1 x y (by omega)
  obtain ⟨m0, mt, mc⟩ := (rG_at hG (i := i) (by omega)).1
  have eN : NC μ1 q i = (μ (q + 4) i).toNat := by unfold NC; rw [g1 _ _ (by omega)]
  have eM : MC μ1 q i = (μ (q + 2) i).toNat := by unfold MC; rw [g1 _ _ (by omega)]
  have c1 := g1 (q + 1) i (by omega)
  have c2 := g1 (q + 2) i (by omega)
  have mr := rG_m hG (i : Int) (by omega) (by omega)
  rw [Int.toNat_natCast] at mr
  have F1 : wf μ1 Wk k (i + 1) = μ 46 (bs + i + 1).toNat := by unfold wf; rw [hi1, g1 46 _ (by omega)]
  have F2 : wf μ1 Wk k (MC μ1 q i + 1) = μ 46 (bs + μ (q + 2) i + 1).toNat := by
    unfold wf
    rw [eM, g1 46 _ (by omega), show k * (sL Wk + 1) + ((μ (q + 2) i).toNat + 1) = (bs + μ (q + 2) i + 1).toNat by omega]
  have kc : KC μ1 q i = if μ (q + 1) i = 513 then 3 else if μ (q + 1) i = 514 then 4 else if μ (q + 1) (μ (q + 2) i).toNat = 513 then 5 else 6 := by
    unfold KC
    rw [← c1, ← c2, if_neg hl, ← g1 (q + 1) (μ (q + 2) i).toNat (by omega)]
  rcases hc with ⟨a1, a2, a3, a4⟩ | ⟨a1, a2, a3, a4⟩ | ⟨a1, a3, a4⟩ | ⟨⟨a0, a1⟩, ⟨a2, a5⟩, a3, a4⟩ | ⟨⟨a0, a1⟩, a2, a3, a4⟩
  · rw [if_pos a1] at kc
    rw [a4, a3, show (μ (q + 2) i + 1).toNat = MC μ1 q i + 1 by rw [eM]; omega]
    exact rg_opt0 h hi kc (by rw [F1]; exact a2) (fun _ _ => rfl) (fun _ _ => rfl) (fun _ => rfl)
  · rw [if_pos a1] at kc
    rw [a3, show ((i : Int) + 1).toNat = i + 1 by omega]
    refine rg_opt1 h hi kc (by rw [F1]; exact a2) (fun j _ => ?_) (fun j _ => ?_) (fun j => ?_)
    · rw [a4, eN]
      by_cases e : j = (μ (q + 4) i).toNat
      · rw [if_pos e, e, uz_s]
      · rw [if_neg e, uz_n (by omega)]
    · rw [a4, uz_n (by omega)]
    · rw [a4, uz_n (by omega)]
  · rw [if_neg (by omega), if_pos a1] at kc
    rw [a3, show ((i : Int) + 1).toNat = i + 1 by omega]
    refine rg_rep h hi kc (fun j _ => ?_) (fun j _ => ?_) (fun j => ?_)
    · rw [a4, eN]
      by_cases e : j = (μ (q + 4) i).toNat
      · rw [if_pos e, e, uz_n (by omega), uz_s]
      · rw [if_neg e, uz_n (by omega), uz_n (by omega)]
    · rw [a4, eN]
      by_cases e : j = (μ (q + 4) i).toNat
      · rw [if_pos e, e, uz_s]
      · rw [if_neg e, uz_n (by omega), uz_n (by omega)]
    · rw [a4, uz_n (by omega), uz_n (by omega)]
  · rw [if_neg a0, if_neg a1, if_neg (by omega)] at kc
    rw [a3, show (μ (q + 2) i + 1).toNat = MC μ1 q i + 1 by rw [eM]; omega]
    have eN2 : NC μ1 q (MC μ1 q i) = (μ (q + 4) (μ (q + 2) i).toNat).toNat := by unfold NC; rw [eM, g1 _ _ (by omega)]
    refine rg_r1 h hi kc (by rw [F2]; exact a5) (fun j _ => ?_) (fun j _ => ?_) (fun j => ?_)
    · rw [a4, uz_n (by omega)]
    · rw [a4, eN2]
      by_cases e : j = (μ (q + 4) (μ (q + 2) i).toNat).toNat
      · rw [if_pos e, e, uz_s]
      · rw [if_neg e, uz_n (by omega)]
    · rw [a4, uz_n (by omega)]
  · rw [if_neg a0, if_neg a1] at kc
    rw [a4, a3, show ((i : Int) + 1).toNat = i + 1 by omega]
    have hs := hG.1 i
    obtain ⟨mm, y1, y2, y3, y4⟩ := mc (by omega)
    refine rg_pass h hi (by rw [kc]; split <;> decide) (by rw [kc]; split <;> decide) (by rw [kc]; split <;> decide) (fun h9 => ?_) (fun _ _ => rfl) (fun _ _ => rfl) (fun _ => rfl)
    rw [F2] at h9
    refine a2 ⟨?_, h9.2⟩
    rw [y1, Int.toNat_natCast] at kc ⊢
    rcases y3 with e | e
    · rw [if_pos e] at kc
      have := h9.1
      omega
    · exact e
theorem wc_lf {μ1 μ u : va_M} {q b i k m : Nat} {Wk : Rw} (hf1 : fr (fun x _ => b + 11 ≤ x ∧ x ≤ b + 13) μ1 μ) (hq : q + 6 ≤ 18) (hb : 113 ≤ b) (hi : i < sL Wk) (hl : μ (q + 1) i ≤ 512) (hn : 0 ≤ μ (q + 4) i) (h : rnC μ1 μ q b Wk m i k) (hu : u = uz (uz μ (b + 11) k (μ (q + 4) i)) (b + 12) (μ (q + 4) i).toNat (μ (b + 12) (μ (q + 4) i).toNat + 1)) : rnC μ1 u q b Wk (m + 1) (i + 1) (k + 1) := by
  have g1 : ∀ x y : Nat, x < 113 → μ x y = μ1 x y := fun x y hx => hf1 x y (by omega)
  have eN : NC μ1 q i = (μ (q + 4) i).toNat := by unfold NC; rw [g1 _ _ (by omega)]
  have kc : KC μ1 q i = 0 := by unfold KC; rw [← g1 (q + 1) i (by omega), if_pos hl]
  refine rg_leaf h hi kc (fun j _ => ?_) (fun j _ => ?_) (fun j => ?_)
  · rw [hu, eN]
    by_cases e : j = (μ (q + 4) i).toNat
    · rw [if_pos e, e, uz_s]
    · rw [if_neg e, uz_n (by omega), uz_n (by omega)]
  · rw [hu, uz_n (by omega), uz_n (by omega)]
  · rw [hu, eN]
    by_cases e : j = k
    · rw [if_pos e, e, uz_n (by omega), uz_s]
      omega
    · rw [if_neg e, uz_n (by omega), uz_n (by omega)]
/-- what a walk of the class leaves: its ways, and the path, if it fits (at most a million turns) -/
def wlkC (u : va_M) (Wk : Rw) (code : Nat → Int) (n b : Nat) : Prop := ∃ F : Nat → Nat → Int, (wkR (wEi 0) (lfY code n) (enY n) n Wk F ∧ (∀ a c : Nat, a ≤ n → c ≤ sL Wk → 0 ≤ F a c)) ∧ u (b + 10) 1 = F 0 0 ∧ (0 < F 0 0 → ∃ (K M N : Nat → Nat) (m x k : Nat), PC K M N Wk 0 0 ∧ rnG K M N F (u (b + 12)) (u (b + 13)) (u (b + 11)) (fun j => j < rN Wk) (fun j => j < rN Wk) (sL Wk) m x k ∧ m ≤ 1000000 ∧ (x = sL Wk ∨ m = 1000000))
theorem wc_in {μg μ1 : va_M} {q kc n b : Nat} {Wk : Rw} (hW : rowS μg q Wk) (hw : rW0 Wk) (h : cH μg q kc n 0 Wk (-1)) (hf : fr (fun x _ => b + 10 ≤ x ∧ x ≤ b + 13) μg μ1) (hb : 113 ≤ b) (hq : q + 6 ≤ 18) (hA : aB μ1) (h0 : 0 < wf μg Wk 0 0) : wcOK μ1 q n Wk ∧ wkR (wEi 0) (lfY (μg kc) n) (enY n) n Wk (wf μ1 Wk) := by
  have e : wf μ1 Wk = wf μg Wk := funext fun c => funext fun x => hf 46 _ (by omega)
  have hk := wy_wk hW hw h
  rw [← e] at hk h0
  have hW1 : rowS μ1 q Wk := rowS_fr9 hW (fun x y h8 h9 => hf _ _ (by omega))
  exact ⟨⟨PC_cls Wk 0 0 0 hw hW1.2.1 hW1.2.2, ⟨_, hk⟩, fun a c => (hA _).1.1, h0⟩, hk⟩
set_option maxHeartbeats 4000000 in
set_option maxRecDepth 100000 in
theorem s_WchooseAt2 (l : Launch) (dC : Nat → ClassId) (dI : Nat → Nat → Nat) (cI cZ cII cIII : ClassId) (h0 sz : Nat) (μ : va_M) (q : Nat) (rm : Nat) (b : Nat) (ii : Nat) (i : Int) (bs : Int) (hq : rowB q rm) (hb9 : b = 113 + ii * 15) (hi9 : ii < 8) (hq18 : q + 6 ≤ 18) (hG : rG μ q rm) (hA : aB μ) (h_i : 0 ≤ i ∧ i < μ q 5) (h_b : 0 ≤ bs ∧ bs ≤ 66060) : Met l yX8_chooseAt (Cond.code yX8_chooseAt cX8_chooseAt 6 (some .int) :: wsG) ({ frames := 1, cells := 0, slots := 0, locals := 14 } : Room) (va_Pc [.ref (h0 + 45), .ref (h0 + q), .int (iZ (i)), .int (iZ (bs)), .ref (h0 + (b + 10))] (fun U => U.heap.size = sz ∧ va_P (dC, dI) vwCl (fw (sE cI cZ cII cIII h0) h0 233 μ) U.heap ∧ va_K (dC, dI) vwCl (sT cI cZ cII cIII) U ∧ xM U)) (va_Qi (fun (r9 : Int32) (u : va_M × Int) => r9 = iZ u.2 ∧ (fun (u : va_M) (r : Int) => (0 ≤ r ∧ r ≤ μ q 5) ∧ fr (fun x _ => x = b + 12 ∨ x = b + 13) μ u ∧ chG μ u q b i.toNat bs r) u.1 u.2) (fun u t => va_P (dC, dI) vwCl (fw (sE cI cZ cII cIII h0) h0 233 u.1) t.heap ∧ va_K (dC, dI) vwCl (sT cI cZ cII cIII) t) (fA h0 233 sz)) 0 0 (fA h0 233 sz) := by
  refine Met.ofW (cc := cX8_chooseAt) (maxL := 6) (ret := (some .int)) (by decide) rfl ?_
  intro p e s m args below meth c s₁ B hml hv
  obtain ⟨rfl, hsz, hP, hK, hM⟩ := hv
  have hx := B.exec
  have hb := B.bytes
  have hr := B.returns
  have hts : ∀ w ∈ wsG, w.before _ s = true := hG_of (atoms_spec (ws := (Cond.code yX8_chooseAt cX8_chooseAt 6 (some .int) :: wsG)) B.pre)
  have hown : s.vm.findClass RX8 = some m.cls := findClass_of_methodNamed B.named
  have hlocks := B.notSynchronized
  subst hsz
  have hS : va_S (fA h0 233 s.heap.size) s.heap s.heap [] := va_S.rf
  have hl := lv_entry ([.ref (h0 + 45), .ref (h0 + q), .int (iZ (i)), .int (iZ (bs)), .ref (h0 + (b + 10))]) (n := 6) (Nat.le_of_ble_eq_true rfl)
  rw [lg_entry_eq]
  generalize (lg_sl ([.ref (h0 + 45), .ref (h0 + q), .int (iZ (i)), .int (iZ (bs)), .ref (h0 + (b + 10))]) ++ List.replicate (6 - (lg_sl ([.ref (h0 + 45), .ref (h0 + q), .int (iZ (i)), .int (iZ (bs)), .ref (h0 + (b + 10))])).length) Slot.unset).toArray = ls at hl ⊢
  have hl : lv_has ls 6 [(0, .ref (h0 + 45)), (1, .ref (h0 + q)), (2, .int (iZ (i))), (3, .int (iZ (bs))), (4, .ref (h0 + (b + 10)))] := hl
  have hqb := rowB_b hq
  have hrm := rG_rm hq hG
  have hs1 := hG.1 i.toNat
  have hmi := rG_m hG i h_i.1 h_i.2
  have hni := rG_n hG i h_i.1 h_i.2
  have hs2 := hG.1 (μ (q + 2) i.toNat).toNat
  have hnm := rG_n hG (μ (q + 2) i.toNat) hmi.1 hmi.2
  have ha1 := hA (bs + i + 1).toNat
  have ha2 := hA (bs + μ (q + 2) i.toNat + 1).toNat
  refine lv_aload_n hx hb dX8_chooseAt_0 rfl (lv_at hl 1 rfl) ?_
  refine fz_get (D := (dC, dI)) (ci := 4) (v := .ref (h0 + (q + 2))) (C := RX4) (T := TX4) (N := 8) hx hb hts inG4 hown hK hP (k := q) (by omega) (F := (sRF h0 q)) (sE_rowO hq) rfl 1 (by decide) (hts _ k86) (fun _ h9 => h9) rfl dX8_chooseAt_1 ?_
  refine lv_iload_n hx hb dX8_chooseAt_4 rfl (lv_at hl 2 rfl) ?_
  refine fz_ld (k := (q + 2)) (n := rm) hx hb hK hP 0 (by omega) (sE_rowA (r := 2) hq (by decide)) rfl ⟨by omega, by omega⟩ (by omega) dX8_chooseAt_5 ?_
  refine lv_istore (lv' := [(5, .int (iZ (μ (q + 2) (i).toNat))), (0, .ref (h0 + 45)), (1, .ref (h0 + q)), (2, .int (iZ (i))), (3, .int (iZ (bs))), (4, .ref (h0 + (b + 10)))]) hx hb dX8_chooseAt_6 hl (by decide) rfl (fun ls hl => ?_)
  refine lv_aload_n hx hb dX8_chooseAt_8 rfl (lv_at hl 2 rfl) ?_
  refine fz_get (D := (dC, dI)) (ci := 4) (v := .ref (h0 + (q + 1))) (C := RX4) (T := TX4) (N := 8) hx hb hts inG4 hown hK hP (k := q) (by omega) (F := (sRF h0 q)) (sE_rowO hq) rfl 0 (by decide) (hts _ k81) (fun _ h9 => h9) rfl dX8_chooseAt_9 ?_
  refine lv_iload_n hx hb dX8_chooseAt_12 rfl (lv_at hl 3 rfl) ?_
  refine fz_ld (k := (q + 1)) (n := rm) hx hb hK hP 0 (by omega) (sE_rowA (r := 1) hq (by decide)) rfl ⟨by omega, by omega⟩ (by omega) dX8_chooseAt_13 ?_
  refine lv_sipush (v := iZ 513) hx hb dX8_chooseAt_14 rfl ?_
  refine fz_icmp_ne (tgt := 57) (by constructor <;> omega) (by decide) hx hb dX8_chooseAt_17 (by decide) (fun c17_ => ?_) (fun c17_ => ?_)
  · refine lv_aload_n hx hb dX8_chooseAt_57 rfl (lv_at hl 2 rfl) ?_
    refine fz_get (D := (dC, dI)) (ci := 4) (v := .ref (h0 + (q + 1))) (C := RX4) (T := TX4) (N := 8) hx hb hts inG4 hown hK hP (k := q) (by omega) (F := (sRF h0 q)) (sE_rowO hq) rfl 0 (by decide) (hts _ k81) (fun _ h9 => h9) rfl dX8_chooseAt_58 ?_
    refine lv_iload_n hx hb dX8_chooseAt_61 rfl (lv_at hl 3 rfl) ?_
    refine fz_ld (k := (q + 1)) (n := rm) hx hb hK hP 0 (by omega) (sE_rowA (r := 1) hq (by decide)) rfl ⟨by omega, by omega⟩ (by omega) dX8_chooseAt_62 ?_
    refine lv_sipush (v := iZ 514) hx hb dX8_chooseAt_63 rfl ?_
    refine fz_icmp_ne (tgt := 104) (by constructor <;> omega) (by decide) hx hb dX8_chooseAt_66 (by decide) (fun c66_ => ?_) (fun c66_ => ?_)
    · refine lv_aload_n hx hb dX8_chooseAt_104 rfl (lv_at hl 2 rfl) ?_
      refine fz_get (D := (dC, dI)) (ci := 4) (v := .ref (h0 + (q + 1))) (C := RX4) (T := TX4) (N := 8) hx hb hts inG4 hown hK hP (k := q) (by omega) (F := (sRF h0 q)) (sE_rowO hq) rfl 0 (by decide) (hts _ k81) (fun _ h9 => h9) rfl dX8_chooseAt_105 ?_
      refine lv_iload hx hb dX8_chooseAt_108 (lv_at hl 0 rfl) ?_
      refine fz_ld (k := (q + 1)) (n := rm) hx hb hK hP 0 (by omega) (sE_rowA (r := 1) hq (by decide)) rfl ⟨by omega, by omega⟩ (by omega) dX8_chooseAt_110 ?_
      refine lv_sipush (v := iZ 514) hx hb dX8_chooseAt_111 rfl ?_
      refine fz_icmp_ne (tgt := 153) (by constructor <;> omega) (by decide) hx hb dX8_chooseAt_114 (by decide) (fun c114_ => ?_) (fun c114_ => ?_)
      · refine lv_iload_n hx hb dX8_chooseAt_153 rfl (lv_at hl 3 rfl) ?_
        refine lv_iconst (v := iZ 1) hx hb dX8_chooseAt_154 rfl ?_
        refine lv_iadd hx hb dX8_chooseAt_155 ?_
        refine lv_topi (fun x9 ex9 => ?_)
        obtain rfl : x9 = iZ (i + 1) := ex9.trans (iZ_add _ _)
        exact W.iret (v := iZ (i + 1)) hx hb hr (fun t9 ht9 hW9 => ⟨⟨iZ (i + 1), (μ, i + 1), rfl, ⟨rfl, (by
                        dsimp only
                        have ei9 : ((i.toNat : Nat) : Int) = i := by omega
                        refine ⟨by omega, ?_, ?_⟩
                        · exact fr_rfl
                        · exact Or.inr (Or.inr (Or.inr (Or.inr ⟨⟨by omega, by omega⟩, by omega, by omega, rfl⟩))))⟩, by rw [ht9]; exact hP, va_K.moved hW9.alike hK⟩, hS.F ht9⟩) hS.2.2 dX8_chooseAt_156
      · refine lv_aload_n hx hb dX8_chooseAt_117 rfl (lv_at hl 1 rfl) ?_
        refine fz_get (D := (dC, dI)) (ci := 8) (v := .ref (h0 + 46)) (C := RX8) (T := TX8) (N := 2) hx hb hts inG8 hown hK hP (k := 45) (by decide) (F := (sF45 h0)) sE_45 rfl 0 (by decide) (hts _ k211) (fun _ h9 => h9) rfl dX8_chooseAt_118 ?_
        refine lv_iload_n hx hb dX8_chooseAt_121 rfl (lv_at hl 4 rfl) ?_
        refine lv_iload hx hb dX8_chooseAt_122 (lv_at hl 0 rfl) ?_
        refine lv_iadd hx hb dX8_chooseAt_124 ?_
        refine lv_topi (fun x9 ex9 => ?_)
        obtain rfl : x9 = iZ (bs + (μ (q + 2) (i).toNat)) := ex9.trans (iZ_add _ _)
        refine lv_iconst (v := iZ 1) hx hb dX8_chooseAt_125 rfl ?_
        refine lv_iadd hx hb dX8_chooseAt_126 ?_
        refine lv_topi (fun x9 ex9 => ?_)
        obtain rfl : x9 = iZ ((bs + (μ (q + 2) (i).toNat)) + 1) := ex9.trans (iZ_add _ _)
        refine fz_ld (k := 46) (n := 67161) hx hb hK hP 0 (by decide) sE_46 rfl ⟨by omega, by omega⟩ (by decide) dX8_chooseAt_127 ?_
        refine fz_if_le (tgt := 153) (by constructor <;> omega) hx hb dX8_chooseAt_128 (by decide) (fun c128_ => ?_) (fun c128_ => ?_)
        · refine lv_iload_n hx hb dX8_chooseAt_153 rfl (lv_at hl 3 rfl) ?_
          refine lv_iconst (v := iZ 1) hx hb dX8_chooseAt_154 rfl ?_
          refine lv_iadd hx hb dX8_chooseAt_155 ?_
          refine lv_topi (fun x9 ex9 => ?_)
          obtain rfl : x9 = iZ (i + 1) := ex9.trans (iZ_add _ _)
          exact W.iret (v := iZ (i + 1)) hx hb hr (fun t9 ht9 hW9 => ⟨⟨iZ (i + 1), (μ, i + 1), rfl, ⟨rfl, (by
                            dsimp only
                            have ei9 : ((i.toNat : Nat) : Int) = i := by omega
                            refine ⟨by omega, ?_, ?_⟩
                            · exact fr_rfl
                            · exact Or.inr (Or.inr (Or.inr (Or.inr ⟨⟨by omega, by omega⟩, by omega, by omega, rfl⟩))))⟩, by rw [ht9]; exact hP, va_K.moved hW9.alike hK⟩, hS.F ht9⟩) hS.2.2 dX8_chooseAt_156
        · refine lv_aload hx hb dX8_chooseAt_131 (lv_at hl 5 rfl) ?_
          refine fz_get (D := (dC, dI)) (ci := 7) (v := .ref (h0 + (b + 13))) (C := RX7) (T := TX7) (N := 5) hx hb hts inG7 hown hK hP (k := (b + 10)) (by omega) (F := (sWF h0 b)) (sE_walk hi9 hb9) rfl 4 (by decide) (hts _ k283) (fun _ h9 => h9) rfl dX8_chooseAt_133 ?_
          refine lv_aload_n hx hb dX8_chooseAt_136 rfl (lv_at hl 2 rfl) ?_
          refine fz_get (D := (dC, dI)) (ci := 4) (v := .ref (h0 + (q + 4))) (C := RX4) (T := TX4) (N := 8) hx hb hts inG4 hown hK hP (k := q) (by omega) (F := (sRF h0 q)) (sE_rowO hq) rfl 3 (by decide) (hts _ k89) (fun _ h9 => h9) rfl dX8_chooseAt_137 ?_
          refine lv_iload hx hb dX8_chooseAt_140 (lv_at hl 0 rfl) ?_
          refine fz_ld (k := (q + 4)) (n := rm) hx hb hK hP 0 (by omega) (sE_rowA (r := 4) hq (by decide)) rfl ⟨by omega, by omega⟩ (by omega) dX8_chooseAt_142 ?_
          refine lv_dup2_11 hx hb dX8_chooseAt_143 rfl rfl ?_
          refine fz_ld (k := (b + 13)) (n := 1100) hx hb hK hP 0 (by omega) (sE_leafA 13 1100 hi9 hb9 (by decide)) rfl ⟨by omega, by omega⟩ (by decide) dX8_chooseAt_144 ?_
          refine lv_iconst (v := iZ 1) hx hb dX8_chooseAt_145 rfl ?_
          refine lv_iadd hx hb dX8_chooseAt_146 ?_
          refine lv_topi (fun x9 ex9 => ?_)
          obtain rfl : x9 = iZ ((μ (b + 13) (μ (q + 4) (μ (q + 2) (i).toNat).toNat).toNat) + 1) := ex9.trans (iZ_add _ _)
          refine fz_st (k := (b + 13)) (n := 1100) (i := (μ (q + 4) (μ (q + 2) (i).toNat).toNat)) (z := ((μ (b + 13) (μ (q + 4) (μ (q + 2) (i).toNat).toNat).toNat) + 1)) hx hb hK hP fA_in hS 0 (by omega) (sE_leafA 13 1100 hi9 hb9 (by decide)) rfl ⟨by omega, by omega⟩ (by decide) dX8_chooseAt_147 (fun H locs hP hS => ?_)
          obtain ⟨μ1, eμ1⟩ : ∃ x : va_M, x = uz μ (b + 13) (μ (q + 4) (μ (q + 2) (i).toNat).toNat).toNat ((μ (b + 13) (μ (q + 4) (μ (q + 2) (i).toNat).toNat).toNat) + 1) := ⟨_, rfl⟩
          rw [← eμ1] at hP
          refine lv_iload hx hb dX8_chooseAt_148 (lv_at hl 0 rfl) ?_
          refine lv_iconst (v := iZ 1) hx hb dX8_chooseAt_150 rfl ?_
          refine lv_iadd hx hb dX8_chooseAt_151 ?_
          refine lv_topi (fun x9 ex9 => ?_)
          obtain rfl : x9 = iZ ((μ (q + 2) (i).toNat) + 1) := ex9.trans (iZ_add _ _)
          exact W.iret (v := iZ ((μ (q + 2) (i).toNat) + 1)) hx hb hr (fun t9 ht9 hW9 => ⟨⟨iZ ((μ (q + 2) (i).toNat) + 1), (μ1, (μ (q + 2) (i).toNat) + 1), rfl, ⟨rfl, (by
                            dsimp only
                            have ei9 : ((i.toNat : Nat) : Int) = i := by omega
                            refine ⟨by omega, ?_, ?_⟩
                            · rw [eμ1]; exact fr_uz (fr_rfl) (Or.inr rfl)
                            · exact Or.inr (Or.inr (Or.inr (Or.inl ⟨⟨by omega, by omega⟩, ⟨by omega, by omega⟩, rfl, by rw [eμ1]⟩))))⟩, by rw [ht9]; exact hP, va_K.moved hW9.alike hK⟩, hS.F ht9⟩) hS.2.2 dX8_chooseAt_152
    · refine lv_aload hx hb dX8_chooseAt_69 (lv_at hl 5 rfl) ?_
      refine fz_get (D := (dC, dI)) (ci := 7) (v := .ref (h0 + (b + 12))) (C := RX7) (T := TX7) (N := 5) hx hb hts inG7 hown hK hP (k := (b + 10)) (by omega) (F := (sWF h0 b)) (sE_walk hi9 hb9) rfl 3 (by decide) (hts _ k280) (fun _ h9 => h9) rfl dX8_chooseAt_71 ?_
      refine lv_aload_n hx hb dX8_chooseAt_74 rfl (lv_at hl 2 rfl) ?_
      refine fz_get (D := (dC, dI)) (ci := 4) (v := .ref (h0 + (q + 4))) (C := RX4) (T := TX4) (N := 8) hx hb hts inG4 hown hK hP (k := q) (by omega) (F := (sRF h0 q)) (sE_rowO hq) rfl 3 (by decide) (hts _ k89) (fun _ h9 => h9) rfl dX8_chooseAt_75 ?_
      refine lv_iload_n hx hb dX8_chooseAt_78 rfl (lv_at hl 3 rfl) ?_
      refine fz_ld (k := (q + 4)) (n := rm) hx hb hK hP 0 (by omega) (sE_rowA (r := 4) hq (by decide)) rfl ⟨by omega, by omega⟩ (by omega) dX8_chooseAt_79 ?_
      refine lv_dup2_11 hx hb dX8_chooseAt_80 rfl rfl ?_
      refine fz_ld (k := (b + 12)) (n := 1100) hx hb hK hP 0 (by omega) (sE_leafA 12 1100 hi9 hb9 (by decide)) rfl ⟨by omega, by omega⟩ (by decide) dX8_chooseAt_81 ?_
      refine lv_iconst (v := iZ 1) hx hb dX8_chooseAt_82 rfl ?_
      refine lv_iadd hx hb dX8_chooseAt_83 ?_
      refine lv_topi (fun x9 ex9 => ?_)
      obtain rfl : x9 = iZ ((μ (b + 12) (μ (q + 4) (i).toNat).toNat) + 1) := ex9.trans (iZ_add _ _)
      refine fz_st (k := (b + 12)) (n := 1100) (i := (μ (q + 4) (i).toNat)) (z := ((μ (b + 12) (μ (q + 4) (i).toNat).toNat) + 1)) hx hb hK hP fA_in hS 0 (by omega) (sE_leafA 12 1100 hi9 hb9 (by decide)) rfl ⟨by omega, by omega⟩ (by decide) dX8_chooseAt_84 (fun H locs hP hS => ?_)
      obtain ⟨μ2, eμ2⟩ : ∃ x : va_M, x = uz μ (b + 12) (μ (q + 4) (i).toNat).toNat ((μ (b + 12) (μ (q + 4) (i).toNat).toNat) + 1) := ⟨_, rfl⟩
      rw [← eμ2] at hP
      have y4 : μ2 (q + 4) i.toNat = μ (q + 4) i.toNat := by rw [eμ2, uz_n (by omega)]
      refine lv_aload hx hb dX8_chooseAt_85 (lv_at hl 5 rfl) ?_
      refine fz_get (D := (dC, dI)) (ci := 7) (v := .ref (h0 + (b + 13))) (C := RX7) (T := TX7) (N := 5) hx hb hts inG7 hown hK hP (k := (b + 10)) (by omega) (F := (sWF h0 b)) (sE_walk hi9 hb9) rfl 4 (by decide) (hts _ k283) (fun _ h9 => h9) rfl dX8_chooseAt_87 ?_
      refine lv_aload_n hx hb dX8_chooseAt_90 rfl (lv_at hl 2 rfl) ?_
      refine fz_get (D := (dC, dI)) (ci := 4) (v := .ref (h0 + (q + 4))) (C := RX4) (T := TX4) (N := 8) hx hb hts inG4 hown hK hP (k := q) (by omega) (F := (sRF h0 q)) (sE_rowO hq) rfl 3 (by decide) (hts _ k89) (fun _ h9 => h9) rfl dX8_chooseAt_91 ?_
      refine lv_iload_n hx hb dX8_chooseAt_94 rfl (lv_at hl 3 rfl) ?_
      refine fz_ld (k := (q + 4)) (n := rm) hx hb hK hP 0 (by omega) (sE_rowA (r := 4) hq (by decide)) rfl ⟨by omega, by omega⟩ (by omega) dX8_chooseAt_95 ?_
      refine lv_dup2_11 hx hb dX8_chooseAt_96 rfl rfl ?_
      refine fz_ld (k := (b + 13)) (n := 1100) hx hb hK hP 0 (by omega) (sE_leafA 13 1100 hi9 hb9 (by decide)) rfl ⟨by omega, by omega⟩ (by decide) dX8_chooseAt_97 ?_
      rw [show μ2 (b + 13) (μ2 (q + 4) (i).toNat).toNat = μ (b + 13) (μ2 (q + 4) (i).toNat).toNat from by rw [eμ2, uz_n (by omega)]]
      refine lv_iconst (v := iZ 1) hx hb dX8_chooseAt_98 rfl ?_
      refine lv_iadd hx hb dX8_chooseAt_99 ?_
      refine lv_topi (fun x9 ex9 => ?_)
      obtain rfl : x9 = iZ ((μ (b + 13) (μ2 (q + 4) (i).toNat).toNat) + 1) := ex9.trans (iZ_add _ _)
      refine fz_st (k := (b + 13)) (n := 1100) (i := (μ2 (q + 4) (i).toNat)) (z := ((μ (b + 13) (μ2 (q + 4) (i).toNat).toNat) + 1)) hx hb hK hP fA_in hS 0 (by omega) (sE_leafA 13 1100 hi9 hb9 (by decide)) rfl ⟨by omega, by omega⟩ (by decide) dX8_chooseAt_100 (fun H locs hP hS => ?_)
      obtain ⟨μ3, eμ3⟩ : ∃ x : va_M, x = uz μ2 (b + 13) (μ2 (q + 4) (i).toNat).toNat ((μ (b + 13) (μ2 (q + 4) (i).toNat).toNat) + 1) := ⟨_, rfl⟩
      rw [← eμ3] at hP
      refine lv_goto (tgt := 153) hx hb dX8_chooseAt_101 (by decide) ?_
      refine lv_iload_n hx hb dX8_chooseAt_153 rfl (lv_at hl 3 rfl) ?_
      refine lv_iconst (v := iZ 1) hx hb dX8_chooseAt_154 rfl ?_
      refine lv_iadd hx hb dX8_chooseAt_155 ?_
      refine lv_topi (fun x9 ex9 => ?_)
      obtain rfl : x9 = iZ (i + 1) := ex9.trans (iZ_add _ _)
      exact W.iret (v := iZ (i + 1)) hx hb hr (fun t9 ht9 hW9 => ⟨⟨iZ (i + 1), (μ3, i + 1), rfl, ⟨rfl, (by
                    dsimp only
                    have ei9 : ((i.toNat : Nat) : Int) = i := by omega
                    refine ⟨by omega, ?_, ?_⟩
                    · rw [eμ3, eμ2]; exact fr_uz (fr_uz (fr_rfl) (Or.inl rfl)) (Or.inr rfl)
                    · exact Or.inr (Or.inr (Or.inl ⟨by omega, by omega, by rw [eμ3, eμ2]⟩)))⟩, by rw [ht9]; exact hP, va_K.moved hW9.alike hK⟩, hS.F ht9⟩) hS.2.2 dX8_chooseAt_156
  · refine lv_aload_n hx hb dX8_chooseAt_20 rfl (lv_at hl 1 rfl) ?_
    refine fz_get (D := (dC, dI)) (ci := 8) (v := .ref (h0 + 46)) (C := RX8) (T := TX8) (N := 2) hx hb hts inG8 hown hK hP (k := 45) (by decide) (F := (sF45 h0)) sE_45 rfl 0 (by decide) (hts _ k211) (fun _ h9 => h9) rfl dX8_chooseAt_21 ?_
    refine lv_iload_n hx hb dX8_chooseAt_24 rfl (lv_at hl 4 rfl) ?_
    refine lv_iload_n hx hb dX8_chooseAt_25 rfl (lv_at hl 3 rfl) ?_
    refine lv_iadd hx hb dX8_chooseAt_26 ?_
    refine lv_topi (fun x9 ex9 => ?_)
    obtain rfl : x9 = iZ (bs + i) := ex9.trans (iZ_add _ _)
    refine lv_iconst (v := iZ 1) hx hb dX8_chooseAt_27 rfl ?_
    refine lv_iadd hx hb dX8_chooseAt_28 ?_
    refine lv_topi (fun x9 ex9 => ?_)
    obtain rfl : x9 = iZ ((bs + i) + 1) := ex9.trans (iZ_add _ _)
    refine fz_ld (k := 46) (n := 67161) hx hb hK hP 0 (by decide) sE_46 rfl ⟨by omega, by omega⟩ (by decide) dX8_chooseAt_29 ?_
    refine fz_if_ne (tgt := 38) (by constructor <;> omega) hx hb dX8_chooseAt_30 (by decide) (fun c30_ => ?_) (fun c30_ => ?_)
    · refine lv_aload hx hb dX8_chooseAt_38 (lv_at hl 5 rfl) ?_
      refine fz_get (D := (dC, dI)) (ci := 7) (v := .ref (h0 + (b + 12))) (C := RX7) (T := TX7) (N := 5) hx hb hts inG7 hown hK hP (k := (b + 10)) (by omega) (F := (sWF h0 b)) (sE_walk hi9 hb9) rfl 3 (by decide) (hts _ k280) (fun _ h9 => h9) rfl dX8_chooseAt_40 ?_
      refine lv_aload_n hx hb dX8_chooseAt_43 rfl (lv_at hl 2 rfl) ?_
      refine fz_get (D := (dC, dI)) (ci := 4) (v := .ref (h0 + (q + 4))) (C := RX4) (T := TX4) (N := 8) hx hb hts inG4 hown hK hP (k := q) (by omega) (F := (sRF h0 q)) (sE_rowO hq) rfl 3 (by decide) (hts _ k89) (fun _ h9 => h9) rfl dX8_chooseAt_44 ?_
      refine lv_iload_n hx hb dX8_chooseAt_47 rfl (lv_at hl 3 rfl) ?_
      refine fz_ld (k := (q + 4)) (n := rm) hx hb hK hP 0 (by omega) (sE_rowA (r := 4) hq (by decide)) rfl ⟨by omega, by omega⟩ (by omega) dX8_chooseAt_48 ?_
      refine lv_dup2_11 hx hb dX8_chooseAt_49 rfl rfl ?_
      refine fz_ld (k := (b + 12)) (n := 1100) hx hb hK hP 0 (by omega) (sE_leafA 12 1100 hi9 hb9 (by decide)) rfl ⟨by omega, by omega⟩ (by decide) dX8_chooseAt_50 ?_
      refine lv_iconst (v := iZ 1) hx hb dX8_chooseAt_51 rfl ?_
      refine lv_iadd hx hb dX8_chooseAt_52 ?_
      refine lv_topi (fun x9 ex9 => ?_)
      obtain rfl : x9 = iZ ((μ (b + 12) (μ (q + 4) (i).toNat).toNat) + 1) := ex9.trans (iZ_add _ _)
      refine fz_st (k := (b + 12)) (n := 1100) (i := (μ (q + 4) (i).toNat)) (z := ((μ (b + 12) (μ (q + 4) (i).toNat).toNat) + 1)) hx hb hK hP fA_in hS 0 (by omega) (sE_leafA 12 1100 hi9 hb9 (by decide)) rfl ⟨by omega, by omega⟩ (by decide) dX8_chooseAt_53 (fun H locs hP hS => ?_)
      obtain ⟨μ4, eμ4⟩ : ∃ x : va_M, x = uz μ (b + 12) (μ (q + 4) (i).toNat).toNat ((μ (b + 12) (μ (q + 4) (i).toNat).toNat) + 1) := ⟨_, rfl⟩
      rw [← eμ4] at hP
      refine lv_goto (tgt := 153) hx hb dX8_chooseAt_54 (by decide) ?_
      refine lv_iload_n hx hb dX8_chooseAt_153 rfl (lv_at hl 3 rfl) ?_
      refine lv_iconst (v := iZ 1) hx hb dX8_chooseAt_154 rfl ?_
      refine lv_iadd hx hb dX8_chooseAt_155 ?_
      refine lv_topi (fun x9 ex9 => ?_)
      obtain rfl : x9 = iZ (i + 1) := ex9.trans (iZ_add _ _)
      exact W.iret (v := iZ (i + 1)) hx hb hr (fun t9 ht9 hW9 => ⟨⟨iZ (i + 1), (μ4, i + 1), rfl, ⟨rfl, (by
                    dsimp only
                    have ei9 : ((i.toNat : Nat) : Int) = i := by omega
                    refine ⟨by omega, ?_, ?_⟩
                    · rw [eμ4]; exact fr_uz (fr_rfl) (Or.inl rfl)
                    · exact Or.inr (Or.inl ⟨by omega, by rw [ei9]; omega, by omega, by rw [eμ4]⟩))⟩, by rw [ht9]; exact hP, va_K.moved hW9.alike hK⟩, hS.F ht9⟩) hS.2.2 dX8_chooseAt_156
    · refine lv_iload hx hb dX8_chooseAt_33 (lv_at hl 0 rfl) ?_
      refine lv_iconst (v := iZ 1) hx hb dX8_chooseAt_35 rfl ?_
      refine lv_iadd hx hb dX8_chooseAt_36 ?_
      refine lv_topi (fun x9 ex9 => ?_)
      obtain rfl : x9 = iZ ((μ (q + 2) (i).toNat) + 1) := ex9.trans (iZ_add _ _)
      exact W.iret (v := iZ ((μ (q + 2) (i).toNat) + 1)) hx hb hr (fun t9 ht9 hW9 => ⟨⟨iZ ((μ (q + 2) (i).toNat) + 1), (μ, (μ (q + 2) (i).toNat) + 1), rfl, ⟨rfl, (by
                    dsimp only
                    have ei9 : ((i.toNat : Nat) : Int) = i := by omega
                    refine ⟨by omega, ?_, ?_⟩
                    · exact fr_rfl
                    · exact Or.inl ⟨by omega, by rw [ei9]; omega, rfl, rfl⟩)⟩, by rw [ht9]; exact hP, va_K.moved hW9.alike hK⟩, hS.F ht9⟩) hS.2.2 dX8_chooseAt_37
set_option maxHeartbeats 4000000 in
set_option maxRecDepth 100000 in
theorem LX8_walk_16b {p : Program} {l : Launch} {e : Env} {R : Room} {s : State} {m : MethodId} {args : Array Value} {below : List Frame} {meth : Method} {c : Code} {cells slots : Nat} {Q : State → Prop} {dC : Nat → ClassId} {dI : Nat → Nat → Nat} {h0 : Nat} {cI cZ cII cIII : ClassId} (hx : p.tables.exec = Jvm.exec) (hb : c.code = cX8_walk) (hml : c.maxLocals = 9) (hown : s.vm.findClass RX8 = some m.cls) (hts : ∀ w ∈ wsG, w.before args s = true) (hK : va_K (dC, dI) vwCl (sT cI cZ cII cIII) s) (hM : xM s) (hRf : 5 ≤ R.frames) (hRl : 113 ≤ R.locals) (hRc : cells ≤ R.cells) (hRs : slots ≤ R.slots) (μ0 : va_M) (q : Nat) (rm : Nat) (b : Nat) (ii : Nat) (kc : Nat) (nc : Nat) (n : Int) (wc : Int) (μ1 : va_M) (hq : rowB q rm) (hb9 : b = 113 + ii * 15) (hi9 : ii < 8) (hq18 : q + 6 ≤ 18) (hG : rG μ0 q rm) (hwc : 0 ≤ wc ∧ wc ≤ 1000000000) (h_n : 0 ≤ n ∧ n ≤ 60) (hkc : 110 ≤ kc ∧ kc < 233 ∧ 60 ≤ nc ∧ nc ≤ 1101) (hE : ∀ f, sE cI cZ cII cIII h0 kc f = .inl (cI, nc, .inl f)) (hcr : ∀ j, inR (μ0 kc j)) (hexit49 : ∀ (i : Int) (μ : va_M) (H : Heap) (locs : List Loc) (ls : Array Slot), (fr (fun x _ => (x = 46 ∨ x = 47) ∨ (b + 10 ≤ x ∧ x ≤ b + 13)) μ0 μ) → (aB μ) → (μ (b + 10) 1 = wc) → (fr (fun x _ => b + 10 ≤ x ∧ x ≤ b + 13) μ1 μ) → (∀ x : Nat, (x : Int) < μ0 q 6 → μ (b + 12) x = 0 ∧ μ (b + 13) x = 0) → va_P (dC, dI) vwCl (fw (sE cI cZ cII cIII h0) h0 233 μ) H → va_S (fA h0 233 s.heap.size) s.heap H locs → lv_has ls 9 [(4, .ref (h0 + (b + 10))), (3, .int (iZ (n))), (2, .ref (h0 + kc)), (1, .ref (h0 + q)), (0, .ref (h0 + 45))] → W p l e R s m args below meth c H locs cells slots Q (F0 m 49 ls [])) :
    ∀ (n9 : Nat) (i : Int) (μ : va_M) (H : Heap) (locs : List Loc) (ls : Array Slot), (0 ≤ i ∧ i ≤ μ0 q 6) → (fr (fun x _ => (x = 46 ∨ x = 47) ∨ (b + 10 ≤ x ∧ x ≤ b + 13)) μ0 μ) → (aB μ) → (μ (b + 10) 1 = wc) → (fr (fun x _ => b + 10 ≤ x ∧ x ≤ b + 13) μ1 μ) → (∀ x : Nat, (x : Int) < i → μ (b + 12) x = 0 ∧ μ (b + 13) x = 0) → (1101 - i).toNat < n9 → va_P (dC, dI) vwCl (fw (sE cI cZ cII cIII h0) h0 233 μ) H → va_S (fA h0 233 s.heap.size) s.heap H locs → lv_has ls 9 [(5, .int (iZ (i))), (4, .ref (h0 + (b + 10))), (3, .int (iZ (n))), (2, .ref (h0 + kc)), (1, .ref (h0 + q)), (0, .ref (h0 + 45))] → W p l e R s m args below meth c H locs cells slots Q (F0 m 16 ls []) := by
  intro n9
  induction n9 with
  | zero => intro i μ H locs ls hi hf hA hw9 hf1 hz hm9 hP hS hl; exact absurd hm9 (Nat.not_lt_zero _)
  | succ n9 ih =>
    intro i μ H locs ls hi hf hA hw9 hf1 hz hm9 hP hS hl
    have hrm := rG_rm hq hG
    have hrn := rG_nod hG
    have hqb := rowB_b hq
    have x5 : μ q 5 = μ0 q 5 := hf _ _ (by omega)
    have x6 : μ q 6 = μ0 q 6 := hf _ _ (by omega)
    have hG1 : rG μ q rm := rG_fr hG (fun x y h8 h9 => hf _ _ (by omega))
    refine lv_iload hx hb dX8_walk_16 (lv_at hl 0 rfl) ?_
    refine lv_aload_n hx hb dX8_walk_18 rfl (lv_at hl 4 rfl) ?_
    refine fz_get (D := (dC, dI)) (ci := 4) (v := .int (iZ (μ q 6))) (C := RX4) (T := TX4) (N := 8) hx hb hts inG4 hown hK hP (k := q) (by omega) (F := (sRF h0 q)) (sE_rowO hq) rfl 6 (by decide) (hts _ k102) (fun _ h9 => h9) rfl dX8_walk_19 ?_
    refine fz_icmp_ge (tgt := 49) (by constructor <;> omega) (by constructor <;> omega) hx hb dX8_walk_22 (by decide) (fun c22_ => ?_) (fun c22_ => ?_)
    · exact hexit49 (i) μ H locs ls (by exact hf) (by exact hA) (by exact hw9) (by exact hf1) (by intro x hx; exact hz x (by omega)) hP hS (lv_sub hl [1, 2, 3, 4, 5] rfl)
    · refine lv_aload hx hb dX8_walk_25 (lv_at hl 1 rfl) ?_
      refine fz_get (D := (dC, dI)) (ci := 7) (v := .ref (h0 + (b + 12))) (C := RX7) (T := TX7) (N := 5) hx hb hts inG7 hown hK hP (k := (b + 10)) (by omega) (F := (sWF h0 b)) (sE_walk hi9 hb9) rfl 3 (by decide) (hts _ k280) (fun _ h9 => h9) rfl dX8_walk_27 ?_
      refine lv_iload hx hb dX8_walk_30 (lv_at hl 0 rfl) ?_
      refine lv_iconst (v := iZ 0) hx hb dX8_walk_32 rfl ?_
      refine fz_st (k := (b + 12)) (n := 1100) (i := i) (z := 0) hx hb hK hP fA_in hS 0 (by omega) (sE_leafA 12 1100 hi9 hb9 (by decide)) rfl ⟨by omega, by omega⟩ (by decide) dX8_walk_33 (fun H locs hP hS => ?_)
      obtain ⟨μ1, eμ1⟩ : ∃ x : va_M, x = uz μ (b + 12) (i).toNat (0) := ⟨_, rfl⟩
      rw [← eμ1] at hP
      refine lv_aload hx hb dX8_walk_34 (lv_at hl 1 rfl) ?_
      refine fz_get (D := (dC, dI)) (ci := 7) (v := .ref (h0 + (b + 13))) (C := RX7) (T := TX7) (N := 5) hx hb hts inG7 hown hK hP (k := (b + 10)) (by omega) (F := (sWF h0 b)) (sE_walk hi9 hb9) rfl 4 (by decide) (hts _ k283) (fun _ h9 => h9) rfl dX8_walk_36 ?_
      refine lv_iload hx hb dX8_walk_39 (lv_at hl 0 rfl) ?_
      refine lv_iconst (v := iZ 0) hx hb dX8_walk_41 rfl ?_
      refine fz_st (k := (b + 13)) (n := 1100) (i := i) (z := 0) hx hb hK hP fA_in hS 0 (by omega) (sE_leafA 13 1100 hi9 hb9 (by decide)) rfl ⟨by omega, by omega⟩ (by decide) dX8_walk_42 (fun H locs hP hS => ?_)
      obtain ⟨μ2, eμ2⟩ : ∃ x : va_M, x = uz μ1 (b + 13) (i).toNat (0) := ⟨_, rfl⟩
      rw [← eμ2] at hP
      refine lv_iinc (v := iZ (i + 1)) (lv' := [(5, .int (iZ (i + 1))), (4, .ref (h0 + (b + 10))), (3, .int (iZ (n))), (2, .ref (h0 + kc)), (1, .ref (h0 + q)), (0, .ref (h0 + 45))]) hx hb dX8_walk_43 hl (k := 0) rfl (iZ_add _ _) (by decide) rfl (fun ls hl => ?_)
      refine lv_goto (tgt := 16) hx hb dX8_walk_46 (by decide) ?_
      exact ih (i + 1) μ2 H locs ls (by omega) (by rw [eμ2, eμ1]; exact fr_uz (fr_uz hf (Or.inr (by omega))) (Or.inr (by omega))) (by rw [eμ2, eμ1]; exact aB_uz (aB_uz hA (fun _ => by omega)) (fun _ => by omega)) (by rw [eμ2, eμ1, uz_n (by omega), uz_n (by omega)]; exact hw9) (by rw [eμ2, eμ1]; exact fr_uz (fr_uz hf1 (by omega)) (by omega)) (by
                    intro x hx
                    rw [eμ2, eμ1]
                    by_cases h9 : x = i.toNat
                    · rw [h9]
                      exact ⟨by rw [uz_n (by omega), uz_s], by rw [uz_s]⟩
                    · have h8 := hz x (by omega)
                      exact ⟨by rw [uz_n (by omega), uz_n (by omega)]; exact h8.1, by rw [uz_n (by omega), uz_n (by omega)]; exact h8.2⟩) (by omega) hP hS (lv_sub hl [0, 1, 2, 3, 4, 5] rfl)
set_option maxHeartbeats 4000000 in
set_option maxRecDepth 100000 in
theorem LX8_walk_75b {p : Program} {l : Launch} {e : Env} {R : Room} {s : State} {m : MethodId} {args : Array Value} {below : List Frame} {meth : Method} {c : Code} {cells slots : Nat} {Q : State → Prop} {dC : Nat → ClassId} {dI : Nat → Nat → Nat} {h0 : Nat} {cI cZ cII cIII : ClassId} (hx : p.tables.exec = Jvm.exec) (hb : c.code = cX8_walk) (hml : c.maxLocals = 9) (hown : s.vm.findClass RX8 = some m.cls) (hts : ∀ w ∈ wsG, w.before args s = true) (hK : va_K (dC, dI) vwCl (sT cI cZ cII cIII) s) (hM : xM s) (hRf : 5 ≤ R.frames) (hRl : 113 ≤ R.locals) (hRc : cells ≤ R.cells) (hRs : slots ≤ R.slots) (μ0 : va_M) (q : Nat) (rm : Nat) (b : Nat) (ii : Nat) (kc : Nat) (nc : Nat) (n : Int) (wc : Int) (μ1 : va_M) (Wk : Rw) (hq : rowB q rm) (hb9 : b = 113 + ii * 15) (hi9 : ii < 8) (hq18 : q + 6 ≤ 18) (hG : rG μ0 q rm) (hwc : 0 ≤ wc ∧ wc ≤ 1000000000) (h_n : 0 ≤ n ∧ n ≤ 60) (hkc : 110 ≤ kc ∧ kc < 233 ∧ 60 ≤ nc ∧ nc ≤ 1101) (hE : ∀ f, sE cI cZ cII cIII h0 kc f = .inl (cI, nc, .inl f)) (hcr : ∀ j, inR (μ0 kc j)) (hC1 : wcOK μ1 q n.toNat Wk) (hL9 : μ0 q 5 = sL Wk) (hexit180 : ∀ (i : Int) (k : Int) (tu : Int) (μ : va_M) (H : Heap) (locs : List Loc) (ls : Array Slot), (fr (fun x _ => (x = 46 ∨ x = 47) ∨ (b + 10 ≤ x ∧ x ≤ b + 13)) μ0 μ) → (aB μ) → (μ (b + 10) 1 = wc) → (∃ m x k : Nat, rnC μ1 μ q b Wk m x k ∧ m ≤ 1000000 ∧ (x = sL Wk ∨ m = 1000000)) → va_P (dC, dI) vwCl (fw (sE cI cZ cII cIII h0) h0 233 μ) H → va_S (fA h0 233 s.heap.size) s.heap H locs → lv_has ls 9 [] → W p l e R s m args below meth c H locs cells slots Q (F0 m 180 ls [])) :
    ∀ (n9 : Nat) (i : Int) (k : Int) (tu : Int) (μ : va_M) (H : Heap) (locs : List Loc) (ls : Array Slot), (0 ≤ i ∧ i ≤ μ0 q 5 ∧ 0 ≤ k ∧ k ≤ n ∧ 0 ≤ tu ∧ tu ≤ 1000000) → (fr (fun x _ => (x = 46 ∨ x = 47) ∨ (b + 10 ≤ x ∧ x ≤ b + 13)) μ0 μ) → (aB μ) → (μ (b + 10) 1 = wc) → (fr (fun x _ => b + 11 ≤ x ∧ x ≤ b + 13) μ1 μ) → (∃ m : Nat, (m : Int) = tu ∧ rnC μ1 μ q b Wk m i.toNat k.toNat) → (1000000 - tu).toNat < n9 → va_P (dC, dI) vwCl (fw (sE cI cZ cII cIII h0) h0 233 μ) H → va_S (fA h0 233 s.heap.size) s.heap H locs → lv_has ls 9 [(8, .int (iZ (tu))), (7, .int (iZ (k))), (6, .int (iZ (i))), (5, .int (iZ (μ0 q 5 + 1))), (4, .ref (h0 + (b + 10))), (3, .int (iZ (n))), (2, .ref (h0 + kc)), (1, .ref (h0 + q)), (0, .ref (h0 + 45))] → W p l e R s m args below meth c H locs cells slots Q (F0 m 75 ls []) := by
  intro n9
  induction n9 with
  | zero => intro i k tu μ H locs ls hi hf hA hw9 hf1 hrun hm9 hP hS hl; exact absurd hm9 (Nat.not_lt_zero _)
  | succ n9 ih =>
    intro i k tu μ H locs ls hi hf hA hw9 hf1 hrun hm9 hP hS hl
    have hrm := rG_rm hq hG
    have hrn := rG_nod hG
    have hqb := rowB_b hq
    have x5 : μ q 5 = μ0 q 5 := hf _ _ (by omega)
    have x6 : μ q 6 = μ0 q 6 := hf _ _ (by omega)
    have hG1 : rG μ q rm := rG_fr hG (fun x y h8 h9 => hf _ _ (by omega))
    obtain ⟨m9, hm1, hm2⟩ := hrun
    obtain ⟨wr1, wr2, wr3⟩ := wc_run hC1 hm2
    refine lv_iload hx hb dX8_walk_75 (lv_at hl 0 rfl) ?_
    refine lv_ldc (v := iZ 1000000) hx hb hown (hts _ k553) dX8_walk_77 ?_
    refine fz_icmp_ge (tgt := 180) (by constructor <;> omega) (by decide) hx hb dX8_walk_79 (by decide) (fun c79_ => ?_) (fun c79_ => ?_)
    · exact hexit180 (i) (k) (tu) μ H locs ls (by exact hf) (by exact hA) (by exact hw9) (by exact ⟨m9, _, _, hm2, by omega, by omega⟩) hP hS (lv_sub hl [] rfl)
    · refine lv_iload hx hb dX8_walk_82 (lv_at hl 2 rfl) ?_
      refine lv_aload_n hx hb dX8_walk_84 rfl (lv_at hl 7 rfl) ?_
      refine fz_get (D := (dC, dI)) (ci := 4) (v := .int (iZ (μ q 5))) (C := RX4) (T := TX4) (N := 8) hx hb hts inG4 hown hK hP (k := q) (by omega) (F := (sRF h0 q)) (sE_rowO hq) rfl 5 (by decide) (hts _ k93) (fun _ h9 => h9) rfl dX8_walk_85 ?_
      refine fz_icmp_ge (tgt := 180) (by constructor <;> omega) (by constructor <;> omega) hx hb dX8_walk_88 (by decide) (fun c88_ => ?_) (fun c88_ => ?_)
      · exact hexit180 (i) (k) (tu) μ H locs ls (by exact hf) (by exact hA) (by exact hw9) (by exact ⟨m9, _, _, hm2, by omega, by omega⟩) hP hS (lv_sub hl [] rfl)
      · have hs1 := hG1.1 i.toNat
        have hni := rG_n hG1 i (by omega) (by omega)
        have mb := mulB k (μ0 q 5 + 1) (by omega) (by omega) (by omega) (by omega)
        refine lv_aload_n hx hb dX8_walk_91 rfl (lv_at hl 7 rfl) ?_
        refine fz_get (D := (dC, dI)) (ci := 4) (v := .ref (h0 + (q + 1))) (C := RX4) (T := TX4) (N := 8) hx hb hts inG4 hown hK hP (k := q) (by omega) (F := (sRF h0 q)) (sE_rowO hq) rfl 0 (by decide) (hts _ k81) (fun _ h9 => h9) rfl dX8_walk_92 ?_
        refine lv_iload hx hb dX8_walk_95 (lv_at hl 2 rfl) ?_
        refine fz_ld (k := (q + 1)) (n := rm) hx hb hK hP 0 (by omega) (sE_rowA (r := 1) hq (by decide)) rfl ⟨by omega, by omega⟩ (by omega) dX8_walk_97 ?_
        refine va_calli (va_runSN (As := [.int (iZ (μ (q + 1) (i).toNat))]) (rest := []) ⟨hx, hb, hml, hown, hts⟩ (s_isLeaf l dC dI cI cZ cII cIII h0 H.size μ (μ (q + 1) (i).toNat) (by first | assumption | omega | exact ⟨by omega, by omega⟩)) ⟨va_cnB (host := "PageSkeleton") 1 hts (gI_G k420) rfl rfl rfl (xM_nest hM 13 rfl) (hts _ k1) (by decide +kernel) ⟨by show 1 + 1 ≤ _; omega, by show 8 + (1 + 11) + (14) ≤ _; omega⟩, hts _ k419, trivial⟩ ⟨fun a U g mk q => by obtain ⟨q0, q1, qP, qK, qM⟩ := q; exact ⟨q0, q1, qP, va_K.moved (u := U) (U := U.calling g mk a) (Vm.Alike.refl U.vm) qK, qM⟩, fun U hU hW => ⟨rfl, by rw [hU], by rw [hU]; exact hP, va_K.moved hW.alike hK, xM_warm hW hM⟩⟩ rfl rfl hl.1 rfl (lv_room (Nat.le_of_ble_eq_true rfl)) dX8_walk_98 ⟨hRc, hRs⟩) hS (fun q _ h => fA_le hS.1 q h) (fA_le hS.1) (fun r9 u9 t9 H1 locs ht9 hvm9 hw9 hB9 hz9 hk9 hS => ?_)
        obtain ⟨μ3, r4⟩ := u9
        obtain ⟨hP, -⟩ := hB9
        rw [ht9] at hP
        generalize H1 = H at hP hS ⊢
        obtain ⟨e9, hw9⟩ := hw9
        have e9 : r9 = iZ r4 := e9
        subst e9
        simp only at hP hw9
        have hμ3 := hw9; clear hw9
        rw [hμ3.1] at hP; have hμ3 := hμ3.2
        have hlf := if_01 hμ3
        have hlfe := if_el hμ3
        refine fz_if_eq (tgt := 158) (by constructor <;> omega) hx hb dX8_walk_101 (by decide) (fun c101_ => ?_) (fun c101_ => ?_)
        · refine lv_aload_n hx hb dX8_walk_158 rfl (lv_at hl 8 rfl) ?_
          refine lv_aload_n hx hb dX8_walk_159 rfl (lv_at hl 7 rfl) ?_
          refine lv_iload hx hb dX8_walk_160 (lv_at hl 2 rfl) ?_
          refine lv_iload hx hb dX8_walk_162 (lv_at hl 1 rfl) ?_
          refine lv_iload hx hb dX8_walk_164 (lv_at hl 3 rfl) ?_
          refine lv_imul hx hb dX8_walk_166 ?_
          refine lv_topi (fun x9 ex9 => ?_)
          obtain rfl : x9 = iZ (k * (μ0 q 5 + 1)) := ex9.trans (iZ_mul _ _)
          refine lv_aload hx hb dX8_walk_167 (lv_at hl 4 rfl) ?_
          refine va_calli (va_runV (As := [.ref (h0 + q), .int (iZ (i)), .int (iZ (k * (μ0 q 5 + 1))), .ref (h0 + (b + 10))]) (rest := []) ⟨hx, hb, hml, hown, hts⟩ (s_WchooseAt2 l dC dI cI cZ cII cIII h0 H.size μ (q) (rm) (b) (ii) (i) (k * (μ0 q 5 + 1)) (hq) (hb9) (hi9) (by first | assumption | omega | exact ⟨by omega, by omega⟩) (by exact hG1) (by exact hA) (by first | assumption | omega | exact ⟨by omega, by omega⟩) (by omega)) (cwV 4 hts (gV_G k575 k577 ks_yX8_chooseAt k8 k578) rfl rfl rfl (by decide +kernel) ⟨by show 1 + 1 ≤ _; omega, by show 8 + (6 + 11) + (14) ≤ _; omega⟩) ⟨fun a U g mk q => by obtain ⟨q0, q1, qP, qK, qM⟩ := q; exact ⟨q0, q1, qP, va_K.moved (u := U) (U := U.calling g mk a) (Vm.Alike.refl U.vm) qK, qM⟩, va_recv hK hP (ci := 8) (q0 := 45) rfl ((fw_get (by decide)).trans (by rw [sE_45])), fun U hU hW => ⟨rfl, by rw [hU], by rw [hU]; exact hP, va_K.moved hW.alike hK, xM_warm hW hM⟩⟩ rfl rfl hl.1 rfl (lv_room (Nat.le_of_ble_eq_true rfl)) dX8_walk_169 ⟨hRc, hRs⟩) hS (fun q _ h => fA_le hS.1 q h) (fA_le hS.1) (fun r9 u9 t9 H1 locs ht9 hvm9 hw9 hB9 hz9 hk9 hS => ?_)
          obtain ⟨μc, rc⟩ := u9
          obtain ⟨hP, -⟩ := hB9
          rw [ht9] at hP
          generalize H1 = H at hP hS ⊢
          obtain ⟨e9, hw9⟩ := hw9
          have e9 : r9 = iZ rc := e9
          subst e9
          simp only at hP hw9
          have hμc := hw9; clear hw9
          obtain ⟨r2_, f2_, c2_⟩ := hμc
          have hmi9 := rG_m hG1 i (by omega) (by omega)
          obtain ⟨x1_, x2_, x3_⟩ := gO_ix (k := k) (i := i) (L := μ0 q 5) (m := μ (q + 2) i.toNat) (S := sL Wk + 1) (by omega) (by omega) (by omega) (by omega)
          refine lv_istore (lv' := [(6, .int (iZ (rc))), (8, .int (iZ (tu))), (7, .int (iZ (k))), (5, .int (iZ (μ0 q 5 + 1))), (4, .ref (h0 + (b + 10))), (3, .int (iZ (n))), (2, .ref (h0 + kc)), (1, .ref (h0 + q)), (0, .ref (h0 + 45))]) hx hb dX8_walk_172 hl (by decide) rfl (fun ls hl => ?_)
          refine lv_iinc (v := iZ (tu + 1)) (lv' := [(8, .int (iZ (tu + 1))), (6, .int (iZ (rc))), (7, .int (iZ (k))), (5, .int (iZ (μ0 q 5 + 1))), (4, .ref (h0 + (b + 10))), (3, .int (iZ (n))), (2, .ref (h0 + kc)), (1, .ref (h0 + q)), (0, .ref (h0 + 45))]) hx hb dX8_walk_174 hl (k := 1) rfl (iZ_add _ _) (by decide) rfl (fun ls hl => ?_)
          refine lv_goto (tgt := 75) hx hb dX8_walk_177 (by decide) ?_
          exact ih (rc) (k) (tu + 1) μc H locs ls (by omega) (by exact fr_trans hf (fr_mono f2_ (fun x y h => Or.inr (by omega)))) (by exact aB_fr hA (fun x y h => f2_ _ _ (by omega))) (by rw [f2_ _ _ (by omega)]; exact hw9) (by exact fr_trans hf1 (fr_mono f2_ (fun x y h => by omega))) (by
                            refine ⟨m9 + 1, by omega, ?_⟩
                            exact wc_ch hG1 (by omega) hf1 hq18 (by omega) (by omega) (by omega) (by rw [show ((i.toNat : Nat) : Int) = i by omega]; exact x2_) x3_ hm2 c2_) (by omega) hP hS (lv_sub hl [0, 2, 1, 3, 4, 5, 6, 7, 8] rfl)
        · have hkn := wr3 (by omega) (by unfold KC; rw [← hf1 (q + 1) _ (by omega), if_pos (by omega)])
          refine lv_iload hx hb dX8_walk_104 (lv_at hl 1 rfl) ?_
          refine lv_iload_n hx hb dX8_walk_106 rfl (lv_at hl 5 rfl) ?_
          refine fz_icmp_ge (tgt := 125) (by constructor <;> omega) (by constructor <;> omega) hx hb dX8_walk_107 (by decide) (fun c107_ => ?_) (fun c107_ => ?_)
          · have y4 : μ (q + 4) i.toNat = μ (q + 4) i.toNat := by rfl
            refine lv_aload hx hb dX8_walk_125 (lv_at hl 4 rfl) ?_
            refine fz_get (D := (dC, dI)) (ci := 7) (v := .ref (h0 + (b + 12))) (C := RX7) (T := TX7) (N := 5) hx hb hts inG7 hown hK hP (k := (b + 10)) (by omega) (F := (sWF h0 b)) (sE_walk hi9 hb9) rfl 3 (by decide) (hts _ k280) (fun _ h9 => h9) rfl dX8_walk_127 ?_
            refine lv_aload_n hx hb dX8_walk_130 rfl (lv_at hl 7 rfl) ?_
            refine fz_get (D := (dC, dI)) (ci := 4) (v := .ref (h0 + (q + 4))) (C := RX4) (T := TX4) (N := 8) hx hb hts inG4 hown hK hP (k := q) (by omega) (F := (sRF h0 q)) (sE_rowO hq) rfl 3 (by decide) (hts _ k89) (fun _ h9 => h9) rfl dX8_walk_131 ?_
            refine lv_iload hx hb dX8_walk_134 (lv_at hl 2 rfl) ?_
            refine fz_ld (k := (q + 4)) (n := rm) hx hb hK hP 0 (by omega) (sE_rowA (r := 4) hq (by decide)) rfl ⟨by omega, by omega⟩ (by omega) dX8_walk_136 ?_
            refine lv_dup2_11 hx hb dX8_walk_137 rfl rfl ?_
            refine fz_ld (k := (b + 12)) (n := 1100) hx hb hK hP 0 (by omega) (sE_leafA 12 1100 hi9 hb9 (by decide)) rfl ⟨by omega, by omega⟩ (by decide) dX8_walk_138 ?_
            refine lv_iconst (v := iZ 1) hx hb dX8_walk_139 rfl ?_
            refine lv_iadd hx hb dX8_walk_140 ?_
            refine lv_topi (fun x9 ex9 => ?_)
            obtain rfl : x9 = iZ ((μ (b + 12) (μ (q + 4) (i).toNat).toNat) + 1) := ex9.trans (iZ_add _ _)
            refine fz_st (k := (b + 12)) (n := 1100) (i := (μ (q + 4) (i).toNat)) (z := ((μ (b + 12) (μ (q + 4) (i).toNat).toNat) + 1)) hx hb hK hP fA_in hS 0 (by omega) (sE_leafA 12 1100 hi9 hb9 (by decide)) rfl ⟨by omega, by omega⟩ (by decide) dX8_walk_141 (fun H locs hP hS => ?_)
            obtain ⟨μ5, eμ5⟩ : ∃ x : va_M, x = uz μ (b + 12) (μ (q + 4) (i).toNat).toNat ((μ (b + 12) (μ (q + 4) (i).toNat).toNat) + 1) := ⟨_, rfl⟩
            rw [← eμ5] at hP
            refine lv_iload hx hb dX8_walk_142 (lv_at hl 1 rfl) ?_
            refine lv_iconst (v := iZ 1) hx hb dX8_walk_144 rfl ?_
            refine lv_iadd hx hb dX8_walk_145 ?_
            refine lv_topi (fun x9 ex9 => ?_)
            obtain rfl : x9 = iZ (k + 1) := ex9.trans (iZ_add _ _)
            refine lv_iload_n hx hb dX8_walk_146 rfl (lv_at hl 5 rfl) ?_
            refine va_mmin hx hb (hml.trans hl.1.symm) hown (hts _ k562) (hts _ k501) (hts _ k4) (hts _ k502) (Nat.le_trans (Nat.le_of_ble_eq_true rfl) hRf) (Nat.le_trans (m := 113) (Nat.le_of_ble_eq_true rfl) hRl) hRc hRs dX8_walk_147 ?_
            refine lv_topi (fun x9 ex9 => ?_)
            obtain rfl : x9 = iZ (min (k + 1) n) := ex9.trans (iZ_mn (by constructor <;> omega) (by constructor <;> omega))
            refine lv_istore (lv' := [(7, .int (iZ (min (k + 1) n))), (8, .int (iZ (tu))), (6, .int (iZ (i))), (5, .int (iZ (μ0 q 5 + 1))), (4, .ref (h0 + (b + 10))), (3, .int (iZ (n))), (2, .ref (h0 + kc)), (1, .ref (h0 + q)), (0, .ref (h0 + 45))]) hx hb dX8_walk_150 hl (by decide) rfl (fun ls hl => ?_)
            refine lv_iinc (v := iZ (i + 1)) (lv' := [(6, .int (iZ (i + 1))), (7, .int (iZ (min (k + 1) n))), (8, .int (iZ (tu))), (5, .int (iZ (μ0 q 5 + 1))), (4, .ref (h0 + (b + 10))), (3, .int (iZ (n))), (2, .ref (h0 + kc)), (1, .ref (h0 + q)), (0, .ref (h0 + 45))]) hx hb dX8_walk_152 hl (k := 2) rfl (iZ_add _ _) (by decide) rfl (fun ls hl => ?_)
            refine lv_goto (tgt := 174) hx hb dX8_walk_155 (by decide) ?_
            refine lv_iinc (v := iZ (tu + 1)) (lv' := [(8, .int (iZ (tu + 1))), (6, .int (iZ (i + 1))), (7, .int (iZ (min (k + 1) n))), (5, .int (iZ (μ0 q 5 + 1))), (4, .ref (h0 + (b + 10))), (3, .int (iZ (n))), (2, .ref (h0 + kc)), (1, .ref (h0 + q)), (0, .ref (h0 + 45))]) hx hb dX8_walk_174 hl (k := 2) rfl (iZ_add _ _) (by decide) rfl (fun ls hl => ?_)
            refine lv_goto (tgt := 75) hx hb dX8_walk_177 (by decide) ?_
            exact ih (i + 1) (min (k + 1) n) (tu + 1) μ5 H locs ls (by omega) (by rw [eμ5]; exact fr_uz (hf) (Or.inr (by omega))) (by rw [eμ5]; exact aB_uz (hA) (fun _ => by omega)) (by
                                rw [eμ5]
                                repeat rw [uz_n (by omega)]
                                exact hw9) (by rw [eμ5]; exact fr_uz (hf1) (by omega)) (by
                                exfalso
                                omega) (by omega) hP hS (lv_sub hl [0, 2, 1, 3, 4, 5, 6, 7, 8] rfl)
          · refine lv_aload hx hb dX8_walk_110 (lv_at hl 4 rfl) ?_
            refine fz_get (D := (dC, dI)) (ci := 7) (v := .ref (h0 + (b + 11))) (C := RX7) (T := TX7) (N := 5) hx hb hts inG7 hown hK hP (k := (b + 10)) (by omega) (F := (sWF h0 b)) (sE_walk hi9 hb9) rfl 2 (by decide) (hts _ k277) (fun _ h9 => h9) rfl dX8_walk_112 ?_
            refine lv_iload hx hb dX8_walk_115 (lv_at hl 1 rfl) ?_
            refine lv_aload_n hx hb dX8_walk_117 rfl (lv_at hl 7 rfl) ?_
            refine fz_get (D := (dC, dI)) (ci := 4) (v := .ref (h0 + (q + 4))) (C := RX4) (T := TX4) (N := 8) hx hb hts inG4 hown hK hP (k := q) (by omega) (F := (sRF h0 q)) (sE_rowO hq) rfl 3 (by decide) (hts _ k89) (fun _ h9 => h9) rfl dX8_walk_118 ?_
            refine lv_iload hx hb dX8_walk_121 (lv_at hl 2 rfl) ?_
            refine fz_ld (k := (q + 4)) (n := rm) hx hb hK hP 0 (by omega) (sE_rowA (r := 4) hq (by decide)) rfl ⟨by omega, by omega⟩ (by omega) dX8_walk_123 ?_
            refine fz_st (k := (b + 11)) (n := 60) (i := k) (z := (μ (q + 4) (i).toNat)) hx hb hK hP fA_in hS 0 (by omega) (sE_leafA 11 60 hi9 hb9 (by decide)) rfl ⟨by omega, by omega⟩ (by decide) dX8_walk_124 (fun H locs hP hS => ?_)
            obtain ⟨μ6, eμ6⟩ : ∃ x : va_M, x = uz μ (b + 11) (k).toNat (μ (q + 4) (i).toNat) := ⟨_, rfl⟩
            rw [← eμ6] at hP
            have y4 : μ6 (q + 4) i.toNat = μ (q + 4) i.toNat := by rw [eμ6, uz_n (by omega)]
            refine lv_aload hx hb dX8_walk_125 (lv_at hl 4 rfl) ?_
            refine fz_get (D := (dC, dI)) (ci := 7) (v := .ref (h0 + (b + 12))) (C := RX7) (T := TX7) (N := 5) hx hb hts inG7 hown hK hP (k := (b + 10)) (by omega) (F := (sWF h0 b)) (sE_walk hi9 hb9) rfl 3 (by decide) (hts _ k280) (fun _ h9 => h9) rfl dX8_walk_127 ?_
            refine lv_aload_n hx hb dX8_walk_130 rfl (lv_at hl 7 rfl) ?_
            refine fz_get (D := (dC, dI)) (ci := 4) (v := .ref (h0 + (q + 4))) (C := RX4) (T := TX4) (N := 8) hx hb hts inG4 hown hK hP (k := q) (by omega) (F := (sRF h0 q)) (sE_rowO hq) rfl 3 (by decide) (hts _ k89) (fun _ h9 => h9) rfl dX8_walk_131 ?_
            refine lv_iload hx hb dX8_walk_134 (lv_at hl 2 rfl) ?_
            refine fz_ld (k := (q + 4)) (n := rm) hx hb hK hP 0 (by omega) (sE_rowA (r := 4) hq (by decide)) rfl ⟨by omega, by omega⟩ (by omega) dX8_walk_136 ?_
            refine lv_dup2_11 hx hb dX8_walk_137 rfl rfl ?_
            refine fz_ld (k := (b + 12)) (n := 1100) hx hb hK hP 0 (by omega) (sE_leafA 12 1100 hi9 hb9 (by decide)) rfl ⟨by omega, by omega⟩ (by decide) dX8_walk_138 ?_
            rw [show μ6 (b + 12) (μ6 (q + 4) (i).toNat).toNat = μ (b + 12) (μ6 (q + 4) (i).toNat).toNat from by rw [eμ6, uz_n (by omega)]]
            refine lv_iconst (v := iZ 1) hx hb dX8_walk_139 rfl ?_
            refine lv_iadd hx hb dX8_walk_140 ?_
            refine lv_topi (fun x9 ex9 => ?_)
            obtain rfl : x9 = iZ ((μ (b + 12) (μ6 (q + 4) (i).toNat).toNat) + 1) := ex9.trans (iZ_add _ _)
            refine fz_st (k := (b + 12)) (n := 1100) (i := (μ6 (q + 4) (i).toNat)) (z := ((μ (b + 12) (μ6 (q + 4) (i).toNat).toNat) + 1)) hx hb hK hP fA_in hS 0 (by omega) (sE_leafA 12 1100 hi9 hb9 (by decide)) rfl ⟨by omega, by omega⟩ (by decide) dX8_walk_141 (fun H locs hP hS => ?_)
            obtain ⟨μ7, eμ7⟩ : ∃ x : va_M, x = uz μ6 (b + 12) (μ6 (q + 4) (i).toNat).toNat ((μ (b + 12) (μ6 (q + 4) (i).toNat).toNat) + 1) := ⟨_, rfl⟩
            rw [← eμ7] at hP
            refine lv_iload hx hb dX8_walk_142 (lv_at hl 1 rfl) ?_
            refine lv_iconst (v := iZ 1) hx hb dX8_walk_144 rfl ?_
            refine lv_iadd hx hb dX8_walk_145 ?_
            refine lv_topi (fun x9 ex9 => ?_)
            obtain rfl : x9 = iZ (k + 1) := ex9.trans (iZ_add _ _)
            refine lv_iload_n hx hb dX8_walk_146 rfl (lv_at hl 5 rfl) ?_
            refine va_mmin hx hb (hml.trans hl.1.symm) hown (hts _ k562) (hts _ k501) (hts _ k4) (hts _ k502) (Nat.le_trans (Nat.le_of_ble_eq_true rfl) hRf) (Nat.le_trans (m := 113) (Nat.le_of_ble_eq_true rfl) hRl) hRc hRs dX8_walk_147 ?_
            refine lv_topi (fun x9 ex9 => ?_)
            obtain rfl : x9 = iZ (min (k + 1) n) := ex9.trans (iZ_mn (by constructor <;> omega) (by constructor <;> omega))
            refine lv_istore (lv' := [(7, .int (iZ (min (k + 1) n))), (8, .int (iZ (tu))), (6, .int (iZ (i))), (5, .int (iZ (μ0 q 5 + 1))), (4, .ref (h0 + (b + 10))), (3, .int (iZ (n))), (2, .ref (h0 + kc)), (1, .ref (h0 + q)), (0, .ref (h0 + 45))]) hx hb dX8_walk_150 hl (by decide) rfl (fun ls hl => ?_)
            refine lv_iinc (v := iZ (i + 1)) (lv' := [(6, .int (iZ (i + 1))), (7, .int (iZ (min (k + 1) n))), (8, .int (iZ (tu))), (5, .int (iZ (μ0 q 5 + 1))), (4, .ref (h0 + (b + 10))), (3, .int (iZ (n))), (2, .ref (h0 + kc)), (1, .ref (h0 + q)), (0, .ref (h0 + 45))]) hx hb dX8_walk_152 hl (k := 2) rfl (iZ_add _ _) (by decide) rfl (fun ls hl => ?_)
            refine lv_goto (tgt := 174) hx hb dX8_walk_155 (by decide) ?_
            refine lv_iinc (v := iZ (tu + 1)) (lv' := [(8, .int (iZ (tu + 1))), (6, .int (iZ (i + 1))), (7, .int (iZ (min (k + 1) n))), (5, .int (iZ (μ0 q 5 + 1))), (4, .ref (h0 + (b + 10))), (3, .int (iZ (n))), (2, .ref (h0 + kc)), (1, .ref (h0 + q)), (0, .ref (h0 + 45))]) hx hb dX8_walk_174 hl (k := 2) rfl (iZ_add _ _) (by decide) rfl (fun ls hl => ?_)
            refine lv_goto (tgt := 75) hx hb dX8_walk_177 (by decide) ?_
            exact ih (i + 1) (min (k + 1) n) (tu + 1) μ7 H locs ls (by omega) (by rw [eμ7, eμ6]; exact fr_uz (fr_uz (hf) (Or.inr (by omega))) (Or.inr (by omega))) (by rw [eμ7, eμ6]; exact aB_uz (aB_uz (hA) (fun _ => by omega)) (fun _ => by omega)) (by
                                rw [eμ7, eμ6]
                                repeat rw [uz_n (by omega)]
                                exact hw9) (by rw [eμ7, eμ6]; exact fr_uz (fr_uz (hf1) (by omega)) (by omega)) (by
                                refine ⟨m9 + 1, by omega, ?_⟩
                                rw [show (i + 1).toNat = i.toNat + 1 by omega, show (min (k + 1) n).toNat = k.toNat + 1 by omega]
                                exact wc_lf hf1 hq18 (by omega) (by omega) (by omega) (by omega) hm2 (by rw [eμ7, eμ6])) (by omega) hP hS (lv_sub hl [0, 2, 1, 3, 4, 5, 6, 7, 8] rfl)
set_option maxHeartbeats 4000000 in
set_option maxRecDepth 100000 in
theorem s_Wwalk2 (l : Launch) (dC : Nat → ClassId) (dI : Nat → Nat → Nat) (cI cZ cII cIII : ClassId) (h0 sz : Nat) (μ : va_M) (q : Nat) (rm : Nat) (b : Nat) (ii : Nat) (kc : Nat) (nc : Nat) (n : Int) (Wk : Rw) (hq : rowB q rm) (hb9 : b = 113 + ii * 15) (hi9 : ii < 8) (hq18 : q + 6 ≤ 18) (hG : rG μ q rm) (hA : aB μ) (hkc : 110 ≤ kc ∧ kc < 233 ∧ 60 ≤ nc ∧ nc ≤ 1101) (hE : ∀ f, sE cI cZ cII cIII h0 kc f = .inl (cI, nc, .inl f)) (hcr : ∀ j, inR (μ kc j)) (h_n : 0 ≤ n ∧ n ≤ 60) (hWr : rowS μ q Wk) (hW0 : rW0 Wk) (hOF : rOF Wk) : Met l yX8_walk (Cond.code yX8_walk cX8_walk 9 none :: wsG) ({ frames := 5, cells := 0, slots := 0, locals := 113 } : Room) (va_Pc [.ref (h0 + 45), .ref (h0 + q), .ref (h0 + kc), .int (iZ (n)), .ref (h0 + (b + 10))] (fun U => U.heap.size = sz ∧ va_P (dC, dI) vwCl (fw (sE cI cZ cII cIII h0) h0 233 μ) U.heap ∧ va_K (dC, dI) vwCl (sT cI cZ cII cIII) U ∧ xM U)) (va_Qv (fun (u : va_M) => fr (fun x _ => (x = 46 ∨ x = 47) ∨ (b + 10 ≤ x ∧ x ≤ b + 13)) μ u ∧ aB u ∧ 0 ≤ u (b + 10) 1 ∧ u (b + 10) 1 ≤ 1000000000 ∧ wlkC u Wk (μ kc) n.toNat b) (fun u t => va_P (dC, dI) vwCl (fw (sE cI cZ cII cIII h0) h0 233 u) t.heap ∧ va_K (dC, dI) vwCl (sT cI cZ cII cIII) t) (fA h0 233 sz)) 0 0 (fA h0 233 sz) := by
  refine Met.ofW (cc := cX8_walk) (maxL := 9) (ret := none) (by decide) rfl ?_
  intro p e s m args below meth c s₁ B hml hv
  obtain ⟨rfl, hsz, hP, hK, hM⟩ := hv
  have hx := B.exec
  have hb := B.bytes
  have hr := B.returns
  have hts : ∀ w ∈ wsG, w.before _ s = true := hG_of (atoms_spec (ws := (Cond.code yX8_walk cX8_walk 9 none :: wsG)) B.pre)
  have hown : s.vm.findClass RX8 = some m.cls := findClass_of_methodNamed B.named
  have hlocks := B.notSynchronized
  subst hsz
  have hS : va_S (fA h0 233 s.heap.size) s.heap s.heap [] := va_S.rf
  have hl := lv_entry ([.ref (h0 + 45), .ref (h0 + q), .ref (h0 + kc), .int (iZ (n)), .ref (h0 + (b + 10))]) (n := 9) (Nat.le_of_ble_eq_true rfl)
  rw [lg_entry_eq]
  generalize (lg_sl ([.ref (h0 + 45), .ref (h0 + q), .ref (h0 + kc), .int (iZ (n)), .ref (h0 + (b + 10))]) ++ List.replicate (9 - (lg_sl ([.ref (h0 + 45), .ref (h0 + q), .ref (h0 + kc), .int (iZ (n)), .ref (h0 + (b + 10))])).length) Slot.unset).toArray = ls at hl ⊢
  have hl : lv_has ls 9 [(0, .ref (h0 + 45)), (1, .ref (h0 + q)), (2, .ref (h0 + kc)), (3, .int (iZ (n))), (4, .ref (h0 + (b + 10)))] := hl
  have hqb := rowB_b hq
  have hrm := rG_rm hq hG
  have hrn := rG_nod hG
  have hqb := rowB_b hq
  refine lv_aload hx hb dX8_walk_0 (lv_at hl 4 rfl) ?_
  refine lv_aload_n hx hb dX8_walk_2 rfl (lv_at hl 0 rfl) ?_
  refine lv_aload_n hx hb dX8_walk_3 rfl (lv_at hl 1 rfl) ?_
  refine lv_aload_n hx hb dX8_walk_4 rfl (lv_at hl 2 rfl) ?_
  refine lv_iload_n hx hb dX8_walk_5 rfl (lv_at hl 3 rfl) ?_
  refine lv_iconst (v := iZ 0) hx hb dX8_walk_6 rfl ?_
  refine va_calli (va_runV (As := [.ref (h0 + q), .ref (h0 + kc), .int (iZ (n)), .int (iZ (0))]) (rest := [.ref (h0 + (b + 10))]) ⟨hx, hb, hml, hown, hts⟩ (s_WgoThrough2 l dC dI cI cZ cII cIII h0 s.heap.size μ (q) (rm) (kc) (nc) (n) (0) (Wk) (hq) (by first | assumption | omega | exact ⟨by omega, by omega⟩) (by first | assumption | omega | exact ⟨by omega, by omega⟩) (by first | assumption | omega | exact ⟨by omega, by omega⟩) (hE) (by first | assumption | omega | exact ⟨by omega, by omega⟩) (by first | assumption | omega | exact ⟨by omega, by omega⟩) (by decide) (by exact hWr) (by exact hW0) (by exact hOF)) (cwV 4 hts (gV_G k543 k544 k545 k8 k546) rfl rfl rfl (by decide +kernel) ⟨Nat.le_of_ble_eq_true rfl, Nat.le_of_ble_eq_true rfl⟩) ⟨fun a U g mk q => by obtain ⟨q0, q1, qP, qK, qM⟩ := q; exact ⟨q0, q1, qP, va_K.moved (u := U) (U := U.calling g mk a) (Vm.Alike.refl U.vm) qK, qM⟩, va_recv hK hP (ci := 8) (q0 := 45) rfl ((fw_get (by decide)).trans (by rw [sE_45])), fun U hU hW => ⟨rfl, by rw [hU], by rw [hU]; exact hP, va_K.moved hW.alike hK, xM_warm hW hM⟩⟩ rfl rfl hl.1 rfl (lv_room (Nat.le_of_ble_eq_true rfl)) dX8_walk_7 ⟨Nat.le_of_ble_eq_true rfl, Nat.le_of_ble_eq_true rfl⟩) hS (fun q _ h => fA_le hS.1 q h) (fA_le hS.1) (fun r9 u9 t9 H1 locs ht9 hvm9 hw9 hB9 hz9 hk9 hS => ?_)
  obtain ⟨μg, rg⟩ := u9
  obtain ⟨hP, -⟩ := hB9
  rw [ht9] at hP
  generalize H1 = H at hP hS ⊢
  obtain ⟨e9, hw9⟩ := hw9
  have e9 : r9 = iZ rg := e9
  subst e9
  simp only at hP hw9
  have hμg := hw9; clear hw9
  obtain ⟨f1_, a1_, w1_, w2_, w3_, hH_⟩ := hμg
  have eW9 := hWr.1.1
  have eN9 := hWr.1.2.1
  have hWg : rowS μg q Wk := rowS_fr9 hWr (fun x y h8 h9 => f1_ _ _ (by omega))
  have en9 : n = ((n.toNat : Nat) : Int) := by omega
  rw [en9] at hH_
  have hkc9 : μg kc = μ kc := funext fun y => f1_ _ _ (by omega)
  refine fz_put (D := (dC, dI)) (ci := 7) (ty := .int) (z := rg) (C := RX7) (T := TX7) (N := 5) hx hb hts inG7 tyX7 tyX7_ok nmX7 hown hK hP fA_in hS (k := (b + 10)) (by omega) (F := (sWF h0 b)) (sE_walk hi9 hb9) rfl 1 (by decide) (hts _ k274) (fun _ h9 => h9) rfl (by decide +kernel) rfl rfl (fun _ => Nat.le_of_ble_eq_true rfl) (fun _ _ => rfl) dX8_walk_10 (fun H locs hP hS => ?_)
  obtain ⟨μ8, eμ8⟩ : ∃ x : va_M, x = uz μg (b + 10) 1 (rg) := ⟨_, rfl⟩
  rw [← eμ8] at hP
  have F8 : fr (fun x _ => b + 10 ≤ x ∧ x ≤ b + 13) μg μ8 := by rw [eμ8]; exact fr_uz fr_rfl (by omega)
  refine lv_iconst (v := iZ 0) hx hb dX8_walk_13 rfl ?_
  refine lv_istore (lv' := [(5, .int (iZ (0))), (0, .ref (h0 + 45)), (1, .ref (h0 + q)), (2, .ref (h0 + kc)), (3, .int (iZ (n))), (4, .ref (h0 + (b + 10)))]) hx hb dX8_walk_14 hl (by decide) rfl (fun ls hl => ?_)
  refine LX8_walk_16b hx hb hml hown hts hK hM (Nat.le_of_ble_eq_true rfl) (Nat.le_of_ble_eq_true rfl) (Nat.le_of_ble_eq_true rfl) (Nat.le_of_ble_eq_true rfl) (μ) (q) (rm) (b) (ii) (kc) (nc) (n) (rg) (μ8) (by assumption) (by assumption) (by assumption) (by assumption) (by exact hG) (by omega) (by assumption) (by assumption) (by assumption) (by exact hcr) ?_ _ (0) μ8 H locs ls (by omega) (by rw [eμ8]; exact fr_uz (fr_mono f1_ (fun x y h => Or.inl h)) (Or.inr (by omega))) (by rw [eμ8]; exact aB_uz a1_ (fun _ => by omega)) (by rw [eμ8, uz_s]) (by exact fr_rfl) (by intro x hx; omega) (Nat.lt_succ_self _) hP hS (lv_sub hl [0, 5, 4, 3, 2, 1] rfl)
  · intro i_10 μ10_ H locs ls q0_10 q1_10 q2_10 q7_10 q8_10 hP hS hl
    have hl : lv_has ls 9 [(4, .ref (h0 + (b + 10))), (3, .int (iZ (n))), (2, .ref (h0 + kc)), (1, .ref (h0 + q)), (0, .ref (h0 + 45))] := hl
    have G0 := q0_10
    have G1 := q1_10
    have G2 := q2_10
    have x5 : μ10_ q 5 = μ q 5 := G0 _ _ (by omega)
    have G7 := q7_10
    have G8 := q8_10
    have Ff : fr (fun x _ => b + 10 ≤ x ∧ x ≤ b + 13) μg μ10_ := fr_trans F8 G7
    refine lv_aload hx hb dX8_walk_49 (lv_at hl 0 rfl) ?_
    refine fz_get (D := (dC, dI)) (ci := 7) (v := .int (iZ (μ10_ (b + 10) 1))) (C := RX7) (T := TX7) (N := 5) hx hb hts inG7 hown hK hP (k := (b + 10)) (by omega) (F := (sWF h0 b)) (sE_walk hi9 hb9) rfl 1 (by decide) (hts _ k274) (fun _ h9 => h9) rfl dX8_walk_51 ?_
    refine fz_if_ne (tgt := 58) (by constructor <;> omega) hx hb dX8_walk_54 (by decide) (fun c54_ => ?_) (fun c54_ => ?_)
    · refine lv_aload_n hx hb dX8_walk_58 rfl (lv_at hl 3 rfl) ?_
      refine fz_get (D := (dC, dI)) (ci := 4) (v := .int (iZ (μ10_ q 5))) (C := RX4) (T := TX4) (N := 8) hx hb hts inG4 hown hK hP (k := q) (by omega) (F := (sRF h0 q)) (sE_rowO hq) rfl 5 (by decide) (hts _ k93) (fun _ h9 => h9) rfl dX8_walk_59 ?_
      refine lv_iconst (v := iZ 1) hx hb dX8_walk_62 rfl ?_
      refine lv_iadd hx hb dX8_walk_63 ?_
      refine lv_topi (fun x9 ex9 => ?_)
      obtain rfl : x9 = iZ ((μ10_ q 5) + 1) := ex9.trans (iZ_add _ _)
      rw [show (μ10_ q 5) + 1 = μ q 5 + 1 from (by omega)]
      refine lv_istore (lv' := [(5, .int (iZ (μ q 5 + 1))), (4, .ref (h0 + (b + 10))), (3, .int (iZ (n))), (2, .ref (h0 + kc)), (1, .ref (h0 + q)), (0, .ref (h0 + 45))]) hx hb dX8_walk_64 hl (by decide) rfl (fun ls hl => ?_)
      refine lv_iconst (v := iZ 0) hx hb dX8_walk_66 rfl ?_
      refine lv_istore (lv' := [(6, .int (iZ (0))), (5, .int (iZ (μ q 5 + 1))), (4, .ref (h0 + (b + 10))), (3, .int (iZ (n))), (2, .ref (h0 + kc)), (1, .ref (h0 + q)), (0, .ref (h0 + 45))]) hx hb dX8_walk_67 hl (by decide) rfl (fun ls hl => ?_)
      refine lv_iconst (v := iZ 0) hx hb dX8_walk_69 rfl ?_
      refine lv_istore (lv' := [(7, .int (iZ (0))), (6, .int (iZ (0))), (5, .int (iZ (μ q 5 + 1))), (4, .ref (h0 + (b + 10))), (3, .int (iZ (n))), (2, .ref (h0 + kc)), (1, .ref (h0 + q)), (0, .ref (h0 + 45))]) hx hb dX8_walk_70 hl (by decide) rfl (fun ls hl => ?_)
      refine lv_iconst (v := iZ 0) hx hb dX8_walk_72 rfl ?_
      refine lv_istore (lv' := [(8, .int (iZ (0))), (7, .int (iZ (0))), (6, .int (iZ (0))), (5, .int (iZ (μ q 5 + 1))), (4, .ref (h0 + (b + 10))), (3, .int (iZ (n))), (2, .ref (h0 + kc)), (1, .ref (h0 + q)), (0, .ref (h0 + 45))]) hx hb dX8_walk_73 hl (by decide) rfl (fun ls hl => ?_)
      refine LX8_walk_75b hx hb hml hown hts hK hM (Nat.le_of_ble_eq_true rfl) (Nat.le_of_ble_eq_true rfl) (Nat.le_of_ble_eq_true rfl) (Nat.le_of_ble_eq_true rfl) (μ) (q) (rm) (b) (ii) (kc) (nc) (n) (rg) (μ10_) (Wk) (by assumption) (by assumption) (by assumption) (by assumption) (by exact hG) (by omega) (by assumption) (by assumption) (by assumption) (by exact hcr) (by exact (wc_in hWg hW0 hH_ Ff (by omega) hq18 G1 (by rw [← w3_]; omega)).1) (by exact eW9) ?_ _ (0) (0) (0) μ10_ H locs ls (by omega) (by exact G0) (by exact G1) (by exact G2) (by exact fr_rfl) (by exact ⟨0, rfl, fun _ => 0, fun _ => 0, fun _ => 0, rfl, fun j hj => (G8 j (by omega)).1, fun j hj => (G8 j (by omega)).2, fun j hj => absurd hj (Nat.not_lt_zero j), fun j hj => absurd hj (Nat.not_lt_zero j)⟩) (Nat.lt_succ_self _) hP hS (lv_sub hl [0, 1, 2, 3, 4, 5, 6, 7, 8] rfl)
      · intro i_11 k_11 tu_11 μ11_ H locs ls q1_11 q2_11 q3_11 q8_11 hP hS hl
        have hl : lv_has ls 9 [] := hl
        exact W.vret hx hb hr (fun t9 ht9 hW9 => ⟨⟨μ11_, rfl, (by
                        try dsimp only
                        exact ⟨q1_11, q2_11, by rw [q3_11]; exact ⟨w1_, w2_⟩, (by
                          obtain ⟨wi1, wi2⟩ := wc_in hWg hW0 hH_ Ff (by omega) hq18 G1 (by rw [← w3_]; omega)
                          obtain ⟨m, x, k, y1, y2⟩ := q8_11
                          rw [hkc9] at wi2
                          exact ⟨_, ⟨wi2, fun a c _ _ => wi1.2.2.1 a c⟩, (q3_11).trans (w3_.trans (Ff 46 _ (by omega)).symm), fun _ => ⟨_, _, _, m, x, k, wi1.1, y1, y2⟩⟩)⟩), by rw [ht9]; exact hP, va_K.moved hW9.alike hK⟩, hS.F ht9⟩) hS.2.2 dX8_walk_180
    · exact W.vret hx hb hr (fun t9 ht9 hW9 => ⟨⟨μ10_, rfl, (by
                    try dsimp only
                    exact ⟨G0, G1, by rw [G2]; exact ⟨w1_, w2_⟩, ⟨wf μg Wk, ⟨by rw [← hkc9]; exact wy_wk hWg hW0 hH_, fun a c _ _ => (a1_ _).1.1⟩, by rw [G2]; exact w3_, fun h9 => by exfalso; rw [← w3_] at h9; omega⟩⟩), by rw [ht9]; exact hP, va_K.moved hW9.alike hK⟩, hS.F ht9⟩) hS.2.2 dX8_walk_57
theorem PC_N {K M N : Nat → Nat} : ∀ (w : Rw) (p n : Nat), PC K M N w p n → ∀ x : Nat, p ≤ x → x < p + sL w → K x = 0 → N x < n + rN w
  | .leaf, p, _, _, x, h1, h2, _ => by
    have e0 : sL (Std.DTreeMap.Internal.Impl.leaf : Rw) = 0 := rfl
    omega
  | .inner z k v l r, p, n, h, x, h1, h2, h0 => by
    rw [PC] at h
    rw [sL_in9] at h2
    rw [rN_in]
    by_cases hk : k < 3
    · rw [if_pos hk] at h h2
      by_cases hx : x = p
      · rw [hx, h.1.2]
        omega
      · have := PC_N r (p + 1) (n + 1) h.2 x (by omega) (by omega) h0
        omega
    · rw [if_neg hk] at h h2
      obtain ⟨⟨k1, k2, k3, k4, k5⟩, h3, h4⟩ := h
      by_cases hx : x = p
      · rw [hx, k1] at h0
        split at h0 <;> omega
      · by_cases hx2 : x < p + 1 + sL l
        · have := PC_N l (p + 1) (n + 1) h3 x (by omega) hx2 h0
          omega
        · by_cases hx3 : x = p + 1 + sL l
          · rw [hx3, k4] at h0
            split at h0 <;> omega
          · have := PC_N r (p + 2 + sL l) (n + 1 + rN l) h4 x (by omega) (by omega) h0
            omega
theorem bmp_b {f : Nat → Int} {i m : Nat} (h : ∀ j : Nat, 0 ≤ f j ∧ f j ≤ m) (j : Nat) : 0 ≤ bmp f i j ∧ bmp f i j ≤ (m + 1 : Nat) := by
  have := h j
  unfold bmp
  split <;> omega
/-- no count passes the steps -/
theorem wrn_b {K M N : Nat → Nat} {F : Nat → Nat → Int} {L B : Nat} (hN : ∀ x : Nat, x < L → K x = 0 → N x ≤ B) : ∀ m : Nat, (∀ j : Nat, j < m → (wrn K M N F j wp0).1 < L) → (∀ j : Nat, 0 ≤ (wrn K M N F m wp0).2.2.1 j ∧ (wrn K M N F m wp0).2.2.1 j ≤ m) ∧ (∀ j : Nat, 0 ≤ (wrn K M N F m wp0).2.2.2.1 j ∧ (wrn K M N F m wp0).2.2.2.1 j ≤ m) ∧ ∀ j : Nat, 0 ≤ (wrn K M N F m wp0).2.2.2.2 j ∧ (wrn K M N F m wp0).2.2.2.2 j ≤ B
  | 0, _ => ⟨fun _ => ⟨Int.le_refl _, Int.le_refl _⟩, fun _ => ⟨Int.le_refl _, Int.le_refl _⟩, fun _ => ⟨Int.le_refl _, Int.natCast_nonneg _⟩⟩
  | m + 1, h => by
    obtain ⟨i1, i2, i3⟩ := wrn_b hN m (fun j hj => h j (by omega))
    have hx := h m (by omega)
    show (∀ j : Nat, 0 ≤ (wst K M N F (wrn K M N F m wp0)).2.2.1 j ∧ (wst K M N F (wrn K M N F m wp0)).2.2.1 j ≤ (m + 1 : Nat)) ∧ (∀ j : Nat, 0 ≤ (wst K M N F (wrn K M N F m wp0)).2.2.2.1 j ∧ (wst K M N F (wrn K M N F m wp0)).2.2.2.1 j ≤ (m + 1 : Nat)) ∧ ∀ j : Nat, 0 ≤ (wst K M N F (wrn K M N F m wp0)).2.2.2.2 j ∧ (wst K M N F (wrn K M N F m wp0)).2.2.2.2 j ≤ B
    generalize wrn K M N F m wp0 = s at i1 i2 i3 hx ⊢
    obtain ⟨x, k, th, pa, tk⟩ := s
    have hx : x < L := hx
    have i1 : ∀ j : Nat, 0 ≤ th j ∧ th j ≤ m := i1
    have i2 : ∀ j : Nat, 0 ≤ pa j ∧ pa j ≤ m := i2
    have i3 : ∀ j : Nat, 0 ≤ tk j ∧ tk j ≤ B := i3
    have w1 : ∀ j : Nat, 0 ≤ th j ∧ th j ≤ (m + 1 : Nat) := fun j => by have := i1 j; omega
    have w2 : ∀ j : Nat, 0 ≤ pa j ∧ pa j ≤ (m + 1 : Nat) := fun j => by have := i2 j; omega
    unfold wst
    by_cases h0 : K x = 0
    · rw [if_pos h0]
      refine ⟨bmp_b i1, w2, fun j => ?_⟩
      show 0 ≤ ptk tk k (N x) j ∧ ptk tk k (N x) j ≤ B
      unfold ptk
      have := hN x hx h0
      split
      · omega
      · exact i3 j
    · rw [if_neg h0]
      by_cases h3 : K x = 3
      · rw [if_pos h3]
        by_cases h9 : F k (x + 1) = 0
        · rw [if_pos h9]
          exact ⟨w1, w2, i3⟩
        · rw [if_neg h9]
          exact ⟨bmp_b i1, w2, i3⟩
      · rw [if_neg h3]
        by_cases h4 : K x = 4
        · rw [if_pos h4]
          exact ⟨bmp_b i1, bmp_b i2, i3⟩
        · rw [if_neg h4]
          by_cases h6 : K x = 6 ∧ 0 < F k (M x + 1)
          · rw [if_pos h6]
            exact ⟨w1, bmp_b i2, i3⟩
          · rw [if_neg h6]
            exact ⟨w1, w2, i3⟩
theorem nz_in {u : va_M} {x y : Nat} (h : inR (u x y)) : nz u x y = u x y := by
  unfold nz
  split
  · exact iZ_toInt h
  · rfl
/-- a walk stays when the free cells are made numbers again -/
theorem wlkC_nz {u : va_M} {Wk : Rw} {code : Nat → Int} {n b i : Nat} (hb : b = 113 + i * 15) (hL : rN Wk ≤ 2000) (h : wlkC u Wk code n b) : wlkC (nz u) Wk code n b := by
  obtain ⟨F, f1, f2, f3⟩ := h
  refine ⟨F, f1, ?_, fun h0 => ?_⟩
  · rw [← f2]
    exact nz_n (by unfold Zc; omega)
  · obtain ⟨K, M, N, m, x, k, a1, ⟨th, pa, tk, e1, e2, e3, e4, e5⟩, a7⟩ := f3 h0
    have hb9 := wrn_b (B := 2000) (F := F) (M := M) (fun x hx h0 => by have := PC_N Wk 0 0 a1 x (Nat.zero_le _) (by omega) h0; omega) m e5
    rw [e1] at hb9
    obtain ⟨b1, b2, b3⟩ := hb9
    have b1 : ∀ j : Nat, 0 ≤ th j ∧ th j ≤ m := b1
    have b2 : ∀ j : Nat, 0 ≤ pa j ∧ pa j ≤ m := b2
    have b3 : ∀ j : Nat, 0 ≤ tk j ∧ tk j ≤ (2000 : Nat) := b3
    refine ⟨K, M, N, m, x, k, a1, ⟨th, pa, tk, e1, fun j hj => ?_, fun j hj => ?_, fun j hj => ?_, e5⟩, a7⟩
    · have h8 := e2 j hj
      have h9 := b1 j
      rw [nz_in (by rw [h8]; constructor <;> omega)]
      exact h8
    · have h8 := e3 j hj
      have h9 := b2 j
      rw [nz_in (by rw [h8]; constructor <;> omega)]
      exact h8
    · have h8 := e4 j hj
      have h9 := b3 j
      rw [nz_in (by rw [h8]; constructor <;> omega)]
      exact h8
/-- the class's walk is the one walk -/
theorem wlkC_1 {u : va_M} {b n : Nat} {Wk : Rw} {code : Nat → Int} {z : Int} {th pa tk : Nat → Int} (ho : rOF Wk) (h1 : wlkC u Wk code n b) (h2 : wlk Wk code n z th pa tk) : u (b + 10) 1 = z ∧ (0 < z → (∀ j : Nat, j < rN Wk → u (b + 12) j = th j ∧ u (b + 13) j = pa j) ∧ ∀ j : Nat, j < n → u (b + 11) j = tk j) := by
  obtain ⟨F, ⟨f1, f0⟩, f2, f3⟩ := h1
  obtain ⟨G, ⟨g1, g0⟩, g2, g3⟩ := h2
  have hFG : ∀ k : Nat, k ≤ n → ∀ x : Nat, x ≤ sL Wk → F k x = G k x := fun k hk x hx => by
    have h9 := wk_one ho (lfY_O code n) f1 g1 (n - k) (by omega) x hx
    rw [show n - (n - k) = k by omega] at h9
    exact h9
  have e0 := hFG 0 (Nat.zero_le _) 0 (Nat.zero_le _)
  refine ⟨by rw [f2, g2, e0], fun hz => ?_⟩
  obtain ⟨K, M, N, m, x, k, a1, ⟨th1, pa1, tk1, a2, a4, a5, a6, a3⟩, a7⟩ := f3 (by rw [e0, ← g2]; exact hz)
  obtain ⟨K2, M2, N2, m2, k2, b0, b1, b2, b3⟩ := g3 hz
  have hP := PC_one (a := 0) (b := sL Wk) Wk 0 0 a1 b1 (Nat.le_refl _) (by omega)
  have hP : ∀ x : Nat, x < sL Wk → PCe K M N K2 M2 N2 0 (sL Wk) x := fun x hx => hP x (Nat.zero_le _) (by omega)
  obtain ⟨ls, l1, l2⟩ := wk_ls f1 a1
  have hok : ∀ m : Nat, (∀ j : Nat, j < m → (wrn K M N F j wp0).1 < sL Wk) → (wrn K M N F m wp0).1 ≤ sL Wk ∧ (wrn K M N F m wp0).2.1 ≤ n ∧ 0 < F (wrn K M N F m wp0).2.1 (wrn K M N F m wp0).1 := fun m hm => wrn_ok (fun x hx => ⟨(hP x hx).2.2.2.1, fun h9 => ((hP x hx).2.1 h9).2.2⟩) l1 l2 f0 (by rw [e0, ← g2]; exact hz) m hm
  have hE := wrn_eq hP hFG (fun m hm => (hok m hm).2.1)
  have em : m2 = m := by
    rcases Nat.lt_trichotomy m2 m with c | c | c
    · have c1 := a3 m2 c
      rw [← hE m2 (fun j hj => a3 j (by omega)), b2] at c1
      exact absurd c1 (Nat.lt_irrefl _)
    · exact c
    · have c1 := b3 m c
      rw [hE m a3, a2] at c1
      have c2 : x < sL Wk := c1
      omega
  subst em
  have e9 := (hE m2 a3).symm.trans b2
  rw [a2] at e9
  injection e9 with q1 q2
  injection q2 with q3 q4
  injection q4 with q5 q6
  injection q6 with q7 q8
  have hk := hok m2 a3
  rw [a2] at hk
  obtain ⟨-, k1, k3⟩ := hk
  have k1 : k ≤ n := k1
  have k3 : 0 < F k x := k3
  have kn : k = n := by
    obtain ⟨t, -, -, -, y4⟩ := f1 k k1
    rw [q1, y4] at k3
    unfold enY at k3
    by_cases h9 : k = n
    · exact h9
    · rw [if_neg h9] at k3
      omega
  exact ⟨fun j hj => ⟨(a4 j hj).trans (congrFun q5 j), (a5 j hj).trans (congrFun q7 j)⟩, fun j hj => (a6 j (by omega)).trans (congrFun q8 j)⟩

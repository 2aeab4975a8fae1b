
/-! the pages' tokens as the class keeps them -/
/-- what an item a page's token is, told by its sort -/
def kdT (T : List Tk) (e : Int) : Nat := match T[e.toNat]? with
  | some t => if t.1 = 2 then 1 else 0
  | none => 0
def cdT (T : List Tk) (e : Int) : Int := sG (kdT T e) e
theorem cdT_is {T : List Tk} {e : Int} {t : Tk} (h : T[e.toNat]? = some t) : cdT T e = if t.1 = 2 then 256 + e else e := by
  unfold cdT kdT
  rw [h]
  dsimp only
  split <;> rfl
theorem kdT_lt (T : List Tk) (e : Int) : kdT T e < 2 := by
  unfold kdT
  split
  · split <;> omega
  · omega
/-- the row of a page's tokens -/
def rowT (T : List Tk) : List Int → Rw
  | [] => .leaf
  | e :: S => .inner 0 (kdT T e) e .leaf (rowT T S)
theorem rowT_L (T : List Tk) : ∀ S : List Int, sL (rowT T S) = S.length
  | [] => rfl
  | e :: S => by
    rw [rowT, sL, if_pos (by have := kdT_lt T e; omega), rowT_L T S, List.length_cons]
    omega
theorem rowT_W (T : List Tk) : ∀ S : List Int, (∀ (k : Nat) (e : Int), S[k]? = some e → 0 ≤ e ∧ e < 200) → rW0 (rowT T S)
  | [], _ => trivial
  | e :: S, h => by
    have h0 := h 0 e rfl
    have := kdT_lt T e
    exact ⟨⟨by omega, fun _ => rfl, by omega, by omega, fun _ => h0.1⟩, trivial, rowT_W T S (fun k x hk => h (k + 1) x hk)⟩
theorem rowT_A {μ : va_M} {c : Nat} (T : List Tk) : ∀ (S : List Int) (p : Nat), (∀ (k : Nat) (e : Int), S[k]? = some e → μ c (p + k) = cdT T e) → SA μ c (rowT T S) p
  | [], _, _ => trivial
  | e :: S, p, h => by
    have := kdT_lt T e
    refine ⟨h 0 e rfl, fun h9 => absurd h9 (by omega), ?_⟩
    rw [if_pos (by omega)]
    exact rowT_A T S (p + 1) (fun k x hk => by rw [Nat.add_assoc, Nat.add_comm 1 k]; exact h (k + 1) x hk)
def lfT (μ : va_M) (b : Nat) (T : List Tk) (S : List Int) : Prop := μ b 2 = S.length ∧ ∀ (k : Nat) (e : Int), S[k]? = some e → μ (b + 1) k = e ∧ μ (b + 2) k = cdT T e
/-- the tape, the tokens and the pages stay -/
def SZ (μ u : va_M) : Prop := ∀ x y, ((x = 0 ∧ y = 2) ∨ x = 1 ∨ x = 2 ∨ x = 3 ∨ (6 ≤ x ∧ x < 12) ∨ (18 ≤ x ∧ x < 37) ∨ (113 ≤ x ∧ (x - 113) % 15 < 9)) → u x y = μ x y
theorem SZ_rf {μ : va_M} : SZ μ μ := fun _ _ _ => rfl
theorem SZ_tr {μ u v : va_M} (h1 : SZ μ u) (h2 : SZ u v) : SZ μ v := fun x y h => (h2 x y h).trans (h1 x y h)
theorem SZ_nz {μ u : va_M} (h : SZ μ u) : SZ μ (nz u) := fun x y q => (nz_n (by unfold Zc; omega)).trans (h x y q)
theorem CZ_thr {T : List Tk} {μ u : va_M} (h : CI T μ) (hf : fr (fun x _ => x = 112) μ u) : CI T u ∧ SZ μ u := ⟨(CI_thr h hf).1, fun x y q => hf _ _ (by omega)⟩
theorem CZ_wk {T : List Tk} {μ u : va_M} (h : CI T μ) (hf : fr (fun x _ => x = 46 ∨ x = 47) μ u) (ha : aB u) : CI T u ∧ SZ μ u := ⟨(CI_wk h hf ha).1, fun x y q => hf _ _ (by omega)⟩
theorem SZ_wq {μ u : va_M} (h : fr WQ μ u) : SZ μ u := fun x y q => h _ _ (by unfold WQ Zc; omega)
theorem CZ_r12 {T : List Tk} {μ u : va_M} (hI : CI T μ) (h : CI0 T u) (hf : fr (fun x _ => (12 ≤ x ∧ x < 18) ∨ (38 ≤ x ∧ x ≤ 44)) μ u) : CI T u ∧ SZ μ u := ⟨(CI_r12 hI h (fr_mono hf (fun x y q => by omega))).1, fun x y q => hf _ _ (by omega)⟩
set_option maxHeartbeats 4000000 in
set_option maxRecDepth 100000 in
theorem LX1_become_20p {p : Program} {l : Launch} {e : Env} {R : Room} {s : State} {m : MethodId} {args : Array Value} {below : List Frame} {meth : Method} {c : Code} {cells slots : Nat} {Q : State → Prop} {dC : Nat → ClassId} {dI : Nat → Nat → Nat} {h0 : Nat} {cI cZ cII cIII : ClassId} (hx : p.tables.exec = Jvm.exec) (hb : c.code = cX1_become) (hml : c.maxLocals = 5) (hown : s.vm.findClass RX1 = some m.cls) (hts : ∀ w ∈ wsG, w.before args s = true) (hK : va_K (dC, dI) vwCl (sT cI cZ cII cIII) s) (hM : xM s) (hRf : 3 ≤ R.frames) (hRl : 58 ≤ R.locals) (hRc : cells ≤ R.cells) (hRs : slots ≤ R.slots) (μ0 : va_M) (b : Nat) (ii : Nat) (T : List Tk) (S : List Int) (n : Int) (hb9 : b = 113 + ii * 15) (hi9 : ii < 8) (hT : tabC μ0 T) (hS9 : fndC μ0 S) (hexit94 : ∀ (i : Int) (μ : va_M) (H : Heap) (locs : List Loc) (ls : Array Slot), (fr (LfB b) μ0 μ) → (outS μ (b + 3) 96 0) → (∀ j, 0 ≤ μ (b + 1) j ∧ μ (b + 1) j < 200) → (∀ j, 0 ≤ μ (b + 2) j ∧ μ (b + 2) j ≤ 515) → (μ b 2 = μ0 1 5) → (∀ y, μ (b + 3 + 2) y = μ0 (b + 3 + 2) y) → (μ (b + 3) 5 = i ∧ μ (b + 3) 7 = 0) → (∀ (k : Nat) (e : Int), S[k]? = some e → (k : Int) < i → μ (b + 1) k = e ∧ μ (b + 2) k = cdT T e ∧ μ (b + 3 + 1) k = cdT T e) → (i = μ0 1 5) → va_P (dC, dI) vwCl (fw (sE cI cZ cII cIII h0) h0 233 μ) H → va_S (fA h0 233 s.heap.size) s.heap H locs → lv_has ls 5 [(0, .ref (h0 + b))] → W p l e R s m args below meth c H locs cells slots Q (F0 m 94 ls [])) :
    ∀ (n9 : Nat) (i : Int) (μ : va_M) (H : Heap) (locs : List Loc) (ls : Array Slot), (0 ≤ i ∧ i ≤ μ0 1 5) → (fr (LfB b) μ0 μ) → (outS μ (b + 3) 96 0) → (∀ j, 0 ≤ μ (b + 1) j ∧ μ (b + 1) j < 200) → (∀ j, 0 ≤ μ (b + 2) j ∧ μ (b + 2) j ≤ 515) → (μ b 2 = μ0 1 5) → (∀ y, μ (b + 3 + 2) y = μ0 (b + 3 + 2) y) → (μ (b + 3) 5 = i ∧ μ (b + 3) 7 = 0) → (∀ (k : Nat) (e : Int), S[k]? = some e → (k : Int) < i → μ (b + 1) k = e ∧ μ (b + 2) k = cdT T e ∧ μ (b + 3 + 1) k = cdT T e) → (61 - i).toNat < n9 → va_P (dC, dI) vwCl (fw (sE cI cZ cII cIII h0) h0 233 μ) H → va_S (fA h0 233 s.heap.size) s.heap H locs → lv_has ls 5 [(4, .int (iZ (i))), (3, .ref (h0 + 1)), (2, .int (iZ (n))), (1, .ref (h0 + 4)), (0, .ref (h0 + b))] → W p l e R s m args below meth c H locs cells slots Q (F0 m 20 ls []) := by
  intro n9
  induction n9 with
  | zero => intro i μ H locs ls hi hf ho htk hc9 hct hmt hcl htl hm9 hP hS hl; exact absurd hm9 (Nat.not_lt_zero _)
  | succ n9 ih =>
    intro i μ H locs ls hi hf ho htk hc9 hct hmt hcl htl hm9 hP hS hl
    have hlb := lf_b hb9 hi9
    have hS1 := hS9.1
    have hT1 := hT.1
    refine lv_iload hx hb dX1_become_20 (lv_at hl 0 rfl) ?_
    refine lv_aload_n hx hb dX1_become_22 rfl (lv_at hl 4 rfl) ?_
    refine fz_get (D := (dC, dI)) (ci := 1) (v := .int (iZ (μ b 2))) (C := RX1) (T := TX1) (N := 8) hx hb hts inG1 hown hK hP (k := b) (by omega) (F := (sLF h0 b)) (sE_leafO hi9 hb9) rfl 2 (by decide) (hts _ k300) (fun _ h9 => h9) rfl dX1_become_23 ?_
    refine fz_icmp_ge (tgt := 94) (by constructor <;> omega) (by constructor <;> omega) hx hb dX1_become_26 (by decide) (fun c26_ => ?_) (fun c26_ => ?_)
    · exact hexit94 (i) μ H locs ls (by exact hf) (by exact ho) (by exact htk) (by exact hc9) (by exact hct) (by exact hmt) (by exact hcl) (by exact htl) (by omega) hP hS (lv_sub hl [4] rfl)
    · obtain ⟨e, he_⟩ : ∃ e, S[i.toNat]? = some e := ⟨_, List.getElem?_eq_getElem (show i.toNat < S.length by omega)⟩
      have he1 := hS9.2 _ _ he_
      obtain ⟨tk, k1_, k2_, k3_, k4_⟩ := tabC_in hT (k := e.toNat) (by omega)
      have x4 : μ 4 i.toNat = e := by rw [hf _ _ (by unfold LfB; omega)]; exact he1.2
      have x3 : ∀ y, μ 3 y = μ0 3 y := fun y => hf _ _ (by unfold LfB; omega)
      refine lv_aload_n hx hb dX1_become_29 rfl (lv_at hl 4 rfl) ?_
      refine fz_get (D := (dC, dI)) (ci := 1) (v := .ref (h0 + (b + 1))) (C := RX1) (T := TX1) (N := 8) hx hb hts inG1 hown hK hP (k := b) (by omega) (F := (sLF h0 b)) (sE_leafO hi9 hb9) rfl 0 (by decide) (hts _ k296) (fun _ h9 => h9) rfl dX1_become_30 ?_
      refine lv_iload hx hb dX1_become_33 (lv_at hl 0 rfl) ?_
      refine lv_aload_n hx hb dX1_become_35 rfl (lv_at hl 3 rfl) ?_
      refine lv_iload hx hb dX1_become_36 (lv_at hl 0 rfl) ?_
      refine fz_ld (k := 4) (n := 60) hx hb hK hP 0 (by decide) sE_4 rfl ⟨by omega, by omega⟩ (by decide) dX1_become_38 ?_
      refine fz_st (k := (b + 1)) (n := 60) (i := i) (z := (μ 4 (i).toNat)) hx hb hK hP fA_in hS 0 (by omega) (sE_leafA 1 60 hi9 hb9 (by decide)) rfl ⟨by omega, by omega⟩ (by decide) dX1_become_39 (fun H locs hP hS => ?_)
      obtain ⟨μ1, eμ1⟩ : ∃ x : va_M, x = uz μ (b + 1) (i).toNat (μ 4 (i).toNat) := ⟨_, rfl⟩
      rw [← eμ1] at hP
      have y4 : μ1 4 i.toNat = e := by rw [eμ1, uz_n (by omega)]; exact x4
      have y3 : μ1 3 (μ1 4 i.toNat).toNat = tk.2.1 * 3 + tk.1 := by rw [y4, eμ1, uz_n (by omega), x3]; exact k4_
      refine lv_aload_n hx hb dX1_become_40 rfl (lv_at hl 4 rfl) ?_
      refine fz_get (D := (dC, dI)) (ci := 1) (v := .ref (h0 + (b + 2))) (C := RX1) (T := TX1) (N := 8) hx hb hts inG1 hown hK hP (k := b) (by omega) (F := (sLF h0 b)) (sE_leafO hi9 hb9) rfl 1 (by decide) (hts _ k298) (fun _ h9 => h9) rfl dX1_become_41 ?_
      refine lv_iload hx hb dX1_become_44 (lv_at hl 0 rfl) ?_
      refine lv_aload_n hx hb dX1_become_46 rfl (lv_at hl 1 rfl) ?_
      refine lv_aload_n hx hb dX1_become_47 rfl (lv_at hl 3 rfl) ?_
      refine lv_iload hx hb dX1_become_48 (lv_at hl 0 rfl) ?_
      refine fz_ld (k := 4) (n := 60) hx hb hK hP 0 (by decide) sE_4 rfl ⟨by omega, by omega⟩ (by decide) dX1_become_50 ?_
      refine va_calli (va_runV (As := [.int (iZ (μ1 4 (i).toNat))]) (rest := [.int (iZ (i)), .ref (h0 + (b + 2))]) ⟨hx, hb, hml, hown, hts⟩ (s_XsortOf l dC dI cI cZ cII cIII h0 H.size μ1 (μ1 4 (i).toNat) (by omega) (by omega)) (cwV 1 hts (gV_G k716 k717 k718 k2 k719) rfl rfl rfl (by decide +kernel) ⟨by show 1 + 1 ≤ _; omega, by show 8 + (2 + 11) + (14) ≤ _; omega⟩) ⟨fun a U g mk q => by obtain ⟨q0, q1, qP, qK, qM⟩ := q; exact ⟨q0, q1, qP, va_K.moved (u := U) (U := U.calling g mk a) (Vm.Alike.refl U.vm) qK, qM⟩, va_recv hK hP (ci := 5) (q0 := 1) rfl ((fw_get (by decide)).trans (by rw [sE_1])), fun U hU hW => ⟨rfl, by rw [hU], by rw [hU]; exact hP, va_K.moved hW.alike hK, xM_warm hW hM⟩⟩ rfl rfl hl.1 rfl (lv_room (Nat.le_of_ble_eq_true rfl)) dX1_become_51 ⟨hRc, hRs⟩) hS (fun q _ h => fA_le hS.1 q h) (fA_le hS.1) (fun r9 u9 t9 H1 locs ht9 hvm9 hw9 hB9 hz9 hk9 hS => ?_)
      obtain ⟨μs, rs⟩ := u9
      obtain ⟨hP, -⟩ := hB9
      rw [ht9] at hP
      generalize H1 = H at hP hS ⊢
      obtain ⟨e9, hw9⟩ := hw9
      have e9 : r9 = iZ rs := e9
      subst e9
      simp only at hP hw9
      have hμs := hw9; clear hw9
      rw [hμs.1] at hP; have hμs := hμs.2
      have hrs := hμs
      rw [y3] at hrs
      refine lv_iconst (v := iZ 2) hx hb dX1_become_54 rfl ?_
      refine fz_icmp_ne (tgt := 69) (by constructor <;> omega) (by decide) hx hb dX1_become_55 (by decide) (fun c55_ => ?_) (fun c55_ => ?_)
      · refine lv_aload_n hx hb dX1_become_69 rfl (lv_at hl 3 rfl) ?_
        refine lv_iload hx hb dX1_become_70 (lv_at hl 0 rfl) ?_
        refine fz_ld (k := 4) (n := 60) hx hb hK hP 0 (by decide) sE_4 rfl ⟨by omega, by omega⟩ (by decide) dX1_become_72 ?_
        refine fz_st (k := (b + 2)) (n := 60) (i := i) (z := (μ1 4 (i).toNat)) hx hb hK hP fA_in hS 0 (by omega) (sE_leafA 2 60 hi9 hb9 (by decide)) rfl ⟨by omega, by omega⟩ (by decide) dX1_become_73 (fun H locs hP hS => ?_)
        obtain ⟨μ2, eμ2⟩ : ∃ x : va_M, x = uz μ1 (b + 2) (i).toNat (μ1 4 (i).toNat) := ⟨_, rfl⟩
        rw [← eμ2] at hP
        have OO : outS μ2 (b + 3) 96 0 := outS_ap ho (fun x y h => by rw [eμ2, eμ1]; rw [uz_n (by omega), uz_n (by omega)])
        have ev : μ2 (b + 2) i.toNat = μ1 4 (i).toNat := by rw [eμ2, uz_s]
        have hsv : vS (μ1 4 (i).toNat) ∧ μ1 4 (i).toNat ≤ 512 := by
          unfold vS
          omega
        have FF : fr (LfB b) μ μ2 := by rw [eμ2, eμ1]; exact fr_uz (fr_uz fr_rfl (by unfold LfB; omega)) (by unfold LfB; omega)
        have tt9 : ∀ j, 0 ≤ μ2 (b + 1) j ∧ μ2 (b + 1) j < 200 := fun j => by
          rw [eμ2, eμ1, uz_n (by omega)]
          by_cases h9 : j = i.toNat
          · rw [h9, uz_s]; omega
          · rw [uz_n (by omega)]; exact htk j
        have cc9 : ∀ j, 0 ≤ μ2 (b + 2) j ∧ μ2 (b + 2) j ≤ 515 := fun j => by
          by_cases h9 : j = i.toNat
          · rw [h9, ev]; have := vS_b hsv.1; omega
          · rw [eμ2, eμ1, uz_n (by omega), uz_n (by omega)]; exact hc9 j
        have ct9 : μ2 b 2 = μ0 1 5 := by rw [eμ2, eμ1, uz_n (by omega), uz_n (by omega)]; exact hct
        have hm5 : ∀ y, μ2 (b + 3 + 2) y = μ (b + 3 + 2) y := fun y => by rw [eμ2, eμ1, uz_n (by omega), uz_n (by omega)]
        have hev : μ1 4 (i).toNat = cdT T e := by
          rw [cdT_is k1_, y4]
          split <;> omega
        have hcl4 : μ2 (b + 3) 5 = i ∧ μ2 (b + 3) 7 = 0 := ⟨by rw [eμ2, eμ1, uz_n (by omega), uz_n (by omega)]; exact hcl.1, by rw [eμ2, eμ1, uz_n (by omega), uz_n (by omega)]; exact hcl.2⟩
        have tt8 : μ2 (b + 1) i.toNat = e := by rw [eμ2, eμ1, uz_n (by omega), uz_s]; exact x4
        have oo8 : ∀ k, k ≠ i.toNat → μ2 (b + 1) k = μ (b + 1) k ∧ μ2 (b + 2) k = μ (b + 2) k := fun k hk => ⟨by rw [eμ2, eμ1, uz_n (by omega), uz_n (by omega)], by rw [eμ2, eμ1, uz_n (by omega), uz_n (by omega)]⟩
        have rr8 : ∀ k, μ2 (b + 3 + 1) k = μ (b + 3 + 1) k := fun k => by rw [eμ2, eμ1, uz_n (by omega), uz_n (by omega)]
        refine lv_aload_n hx hb dX1_become_74 rfl (lv_at hl 4 rfl) ?_
        refine fz_get (D := (dC, dI)) (ci := 1) (v := .ref (h0 + (b + 3))) (C := RX1) (T := TX1) (N := 8) hx hb hts inG1 hown hK hP (k := b) (by omega) (F := (sLF h0 b)) (sE_leafO hi9 hb9) rfl 3 (by decide) (hts _ k302) (fun _ h9 => h9) rfl dX1_become_75 ?_
        refine lv_aload_n hx hb dX1_become_78 rfl (lv_at hl 4 rfl) ?_
        refine fz_get (D := (dC, dI)) (ci := 1) (v := .ref (h0 + (b + 2))) (C := RX1) (T := TX1) (N := 8) hx hb hts inG1 hown hK hP (k := b) (by omega) (F := (sLF h0 b)) (sE_leafO hi9 hb9) rfl 1 (by decide) (hts _ k298) (fun _ h9 => h9) rfl dX1_become_79 ?_
        refine lv_iload hx hb dX1_become_82 (lv_at hl 0 rfl) ?_
        refine fz_ld (k := (b + 2)) (n := 60) hx hb hK hP 0 (by omega) (sE_leafA 2 60 hi9 hb9 (by decide)) rfl ⟨by omega, by omega⟩ (by decide) dX1_become_84 ?_
        rw [show μ2 (b + 2) (i).toNat = μ1 4 (i).toNat from by rw [eμ2, uz_s]]
        refine va_callv (va_runV (As := [.int (iZ (μ1 4 (i).toNat))]) (rest := []) ⟨hx, hb, hml, hown, hts⟩ (s_Rput l dC dI cI cZ cII cIII h0 H.size μ2 ((b + 3)) (96) (μ1 4 (i).toNat) ((rowB_L hi9 hb9)) (by exact OO.1)) (cwV 1 hts (gV_G k720 k411 k412 k3 k413) rfl rfl rfl (by decide +kernel) ⟨by show 1 + 1 ≤ _; omega, by show 8 + (2 + 11) + (14) ≤ _; omega⟩) ⟨fun a U g mk q => by obtain ⟨q0, q1, qP, qK, qM⟩ := q; exact ⟨q0, q1, qP, va_K.moved (u := U) (U := U.calling g mk a) (Vm.Alike.refl U.vm) qK, qM⟩, va_recv hK hP (ci := 4) (q0 := (b + 3)) rfl ((fw_get (by omega)).trans (by rw [(sE_rowO (rowB_L hi9 hb9))])), fun U hU hW => ⟨rfl, by rw [hU], by rw [hU]; exact hP, va_K.moved hW.alike hK, xM_warm hW hM⟩⟩ rfl rfl hl.1 rfl (lv_room (Nat.le_of_ble_eq_true rfl)) dX1_become_85 ⟨hRc, hRs⟩) hS (fun q _ h => fA_le hS.1 q h) (fA_le hS.1) (fun u9 t9 H1 locs ht9 hvm9 hw9 hB9 hz9 hk9 hS => ?_)
        obtain ⟨hP, -⟩ := hB9
        rw [ht9] at hP
        generalize H1 = H at hP hS ⊢
        obtain ⟨μp, eμp⟩ : ∃ x : va_M, x = u9 := ⟨_, rfl⟩
        rw [← eμp] at hP hw9
        have hμp := hw9; clear hw9
        obtain ⟨c1, c2⟩ := hμp
        have hpe := c1 (by omega)
        obtain ⟨o1_, f1_⟩ := outS_put OO (s := _) hsv.1 (by rw [dl_0 hsv.2]; decide) c1 c2
        rw [dl_0 hsv.2] at o1_
        refine lv_iinc (v := iZ (i + 1)) (lv' := [(4, .int (iZ (i + 1))), (3, .ref (h0 + 1)), (2, .int (iZ (n))), (1, .ref (h0 + 4)), (0, .ref (h0 + b))]) hx hb dX1_become_88 hl (k := 0) rfl (iZ_add _ _) (by decide) rfl (fun ls hl => ?_)
        refine lv_goto (tgt := 20) hx hb dX1_become_91 (by decide) ?_
        exact ih (i + 1) μp H locs ls (by omega) (by exact fr_trans hf (fr_trans FF (fr_mono f1_ (fun x y h => by unfold LfB; omega)))) (by exact o1_) (by intro j; rw [f1_ _ _ (by omega)]; exact tt9 j) (by intro j; rw [f1_ _ _ (by omega)]; exact cc9 j) (by rw [f1_ _ _ (by omega)]; exact ct9) (by
                        intro y
                        rw [f1_ _ _ (by omega), hm5 y]; exact hmt y) (by exact ⟨by rw [hpe, uz_s, hcl4.1], by rw [hpe, uz_n (by omega), uz_n (by omega)]; exact hcl4.2⟩) (by
                        intro k e2 hk2 hk3
                        by_cases h9 : k = i.toNat
                        · subst h9
                          rw [he_] at hk2
                          cases hk2
                          refine ⟨by rw [f1_ _ _ (by omega)]; exact tt8, by rw [f1_ _ _ (by omega), ev]; exact hev, ?_⟩
                          rw [hpe, uz_n (by omega), hcl4.1, uz_s]
                          exact hev
                        · obtain ⟨a1, a2, a3⟩ := htl k e2 hk2 (by omega)
                          refine ⟨by rw [f1_ _ _ (by omega), (oo8 k h9).1]; exact a1, by rw [f1_ _ _ (by omega), (oo8 k h9).2]; exact a2, ?_⟩
                          rw [hpe, uz_n (by omega), hcl4.1, uz_n (by omega), rr8]
                          exact a3) (by omega) hP hS (lv_sub hl [0, 1, 2, 3, 4] rfl)
      · refine lv_sipush (v := iZ 256) hx hb dX1_become_58 rfl ?_
        refine lv_aload_n hx hb dX1_become_61 rfl (lv_at hl 3 rfl) ?_
        refine lv_iload hx hb dX1_become_62 (lv_at hl 0 rfl) ?_
        refine fz_ld (k := 4) (n := 60) hx hb hK hP 0 (by decide) sE_4 rfl ⟨by omega, by omega⟩ (by decide) dX1_become_64 ?_
        refine lv_iadd hx hb dX1_become_65 ?_
        refine lv_topi (fun x9 ex9 => ?_)
        obtain rfl : x9 = iZ (256 + (μ1 4 (i).toNat)) := ex9.trans (iZ_add _ _)
        refine lv_goto (tgt := 73) hx hb dX1_become_66 (by decide) ?_
        refine fz_st (k := (b + 2)) (n := 60) (i := i) (z := (256 + (μ1 4 (i).toNat))) hx hb hK hP fA_in hS 0 (by omega) (sE_leafA 2 60 hi9 hb9 (by decide)) rfl ⟨by omega, by omega⟩ (by decide) dX1_become_73 (fun H locs hP hS => ?_)
        obtain ⟨μ3, eμ3⟩ : ∃ x : va_M, x = uz μ1 (b + 2) (i).toNat (256 + (μ1 4 (i).toNat)) := ⟨_, rfl⟩
        rw [← eμ3] at hP
        have OO : outS μ3 (b + 3) 96 0 := outS_ap ho (fun x y h => by rw [eμ3, eμ1]; rw [uz_n (by omega), uz_n (by omega)])
        have ev : μ3 (b + 2) i.toNat = 256 + (μ1 4 (i).toNat) := by rw [eμ3, uz_s]
        have hsv : vS (256 + (μ1 4 (i).toNat)) ∧ 256 + (μ1 4 (i).toNat) ≤ 512 := by
          unfold vS
          omega
        have FF : fr (LfB b) μ μ3 := by rw [eμ3, eμ1]; exact fr_uz (fr_uz fr_rfl (by unfold LfB; omega)) (by unfold LfB; omega)
        have tt9 : ∀ j, 0 ≤ μ3 (b + 1) j ∧ μ3 (b + 1) j < 200 := fun j => by
          rw [eμ3, eμ1, uz_n (by omega)]
          by_cases h9 : j = i.toNat
          · rw [h9, uz_s]; omega
          · rw [uz_n (by omega)]; exact htk j
        have cc9 : ∀ j, 0 ≤ μ3 (b + 2) j ∧ μ3 (b + 2) j ≤ 515 := fun j => by
          by_cases h9 : j = i.toNat
          · rw [h9, ev]; have := vS_b hsv.1; omega
          · rw [eμ3, eμ1, uz_n (by omega), uz_n (by omega)]; exact hc9 j
        have ct9 : μ3 b 2 = μ0 1 5 := by rw [eμ3, eμ1, uz_n (by omega), uz_n (by omega)]; exact hct
        have hm5 : ∀ y, μ3 (b + 3 + 2) y = μ (b + 3 + 2) y := fun y => by rw [eμ3, eμ1, uz_n (by omega), uz_n (by omega)]
        have hev : 256 + (μ1 4 (i).toNat) = cdT T e := by
          rw [cdT_is k1_, y4]
          split <;> omega
        have hcl4 : μ3 (b + 3) 5 = i ∧ μ3 (b + 3) 7 = 0 := ⟨by rw [eμ3, eμ1, uz_n (by omega), uz_n (by omega)]; exact hcl.1, by rw [eμ3, eμ1, uz_n (by omega), uz_n (by omega)]; exact hcl.2⟩
        have tt8 : μ3 (b + 1) i.toNat = e := by rw [eμ3, eμ1, uz_n (by omega), uz_s]; exact x4
        have oo8 : ∀ k, k ≠ i.toNat → μ3 (b + 1) k = μ (b + 1) k ∧ μ3 (b + 2) k = μ (b + 2) k := fun k hk => ⟨by rw [eμ3, eμ1, uz_n (by omega), uz_n (by omega)], by rw [eμ3, eμ1, uz_n (by omega), uz_n (by omega)]⟩
        have rr8 : ∀ k, μ3 (b + 3 + 1) k = μ (b + 3 + 1) k := fun k => by rw [eμ3, eμ1, uz_n (by omega), uz_n (by omega)]
        refine lv_aload_n hx hb dX1_become_74 rfl (lv_at hl 4 rfl) ?_
        refine fz_get (D := (dC, dI)) (ci := 1) (v := .ref (h0 + (b + 3))) (C := RX1) (T := TX1) (N := 8) hx hb hts inG1 hown hK hP (k := b) (by omega) (F := (sLF h0 b)) (sE_leafO hi9 hb9) rfl 3 (by decide) (hts _ k302) (fun _ h9 => h9) rfl dX1_become_75 ?_
        refine lv_aload_n hx hb dX1_become_78 rfl (lv_at hl 4 rfl) ?_
        refine fz_get (D := (dC, dI)) (ci := 1) (v := .ref (h0 + (b + 2))) (C := RX1) (T := TX1) (N := 8) hx hb hts inG1 hown hK hP (k := b) (by omega) (F := (sLF h0 b)) (sE_leafO hi9 hb9) rfl 1 (by decide) (hts _ k298) (fun _ h9 => h9) rfl dX1_become_79 ?_
        refine lv_iload hx hb dX1_become_82 (lv_at hl 0 rfl) ?_
        refine fz_ld (k := (b + 2)) (n := 60) hx hb hK hP 0 (by omega) (sE_leafA 2 60 hi9 hb9 (by decide)) rfl ⟨by omega, by omega⟩ (by decide) dX1_become_84 ?_
        rw [show μ3 (b + 2) (i).toNat = 256 + (μ1 4 (i).toNat) from by rw [eμ3, uz_s]]
        refine va_callv (va_runV (As := [.int (iZ (256 + (μ1 4 (i).toNat)))]) (rest := []) ⟨hx, hb, hml, hown, hts⟩ (s_Rput l dC dI cI cZ cII cIII h0 H.size μ3 ((b + 3)) (96) (256 + (μ1 4 (i).toNat)) ((rowB_L hi9 hb9)) (by exact OO.1)) (cwV 1 hts (gV_G k720 k411 k412 k3 k413) rfl rfl rfl (by decide +kernel) ⟨by show 1 + 1 ≤ _; omega, by show 8 + (2 + 11) + (14) ≤ _; omega⟩) ⟨fun a U g mk q => by obtain ⟨q0, q1, qP, qK, qM⟩ := q; exact ⟨q0, q1, qP, va_K.moved (u := U) (U := U.calling g mk a) (Vm.Alike.refl U.vm) qK, qM⟩, va_recv hK hP (ci := 4) (q0 := (b + 3)) rfl ((fw_get (by omega)).trans (by rw [(sE_rowO (rowB_L hi9 hb9))])), fun U hU hW => ⟨rfl, by rw [hU], by rw [hU]; exact hP, va_K.moved hW.alike hK, xM_warm hW hM⟩⟩ rfl rfl hl.1 rfl (lv_room (Nat.le_of_ble_eq_true rfl)) dX1_become_85 ⟨hRc, hRs⟩) hS (fun q _ h => fA_le hS.1 q h) (fA_le hS.1) (fun u9 t9 H1 locs ht9 hvm9 hw9 hB9 hz9 hk9 hS => ?_)
        obtain ⟨hP, -⟩ := hB9
        rw [ht9] at hP
        generalize H1 = H at hP hS ⊢
        obtain ⟨μp, eμp⟩ : ∃ x : va_M, x = u9 := ⟨_, rfl⟩
        rw [← eμp] at hP hw9
        have hμp := hw9; clear hw9
        obtain ⟨c1, c2⟩ := hμp
        have hpe := c1 (by omega)
        obtain ⟨o1_, f1_⟩ := outS_put OO (s := _) hsv.1 (by rw [dl_0 hsv.2]; decide) c1 c2
        rw [dl_0 hsv.2] at o1_
        refine lv_iinc (v := iZ (i + 1)) (lv' := [(4, .int (iZ (i + 1))), (3, .ref (h0 + 1)), (2, .int (iZ (n))), (1, .ref (h0 + 4)), (0, .ref (h0 + b))]) hx hb dX1_become_88 hl (k := 0) rfl (iZ_add _ _) (by decide) rfl (fun ls hl => ?_)
        refine lv_goto (tgt := 20) hx hb dX1_become_91 (by decide) ?_
        exact ih (i + 1) μp H locs ls (by omega) (by exact fr_trans hf (fr_trans FF (fr_mono f1_ (fun x y h => by unfold LfB; omega)))) (by exact o1_) (by intro j; rw [f1_ _ _ (by omega)]; exact tt9 j) (by intro j; rw [f1_ _ _ (by omega)]; exact cc9 j) (by rw [f1_ _ _ (by omega)]; exact ct9) (by
                        intro y
                        rw [f1_ _ _ (by omega), hm5 y]; exact hmt y) (by exact ⟨by rw [hpe, uz_s, hcl4.1], by rw [hpe, uz_n (by omega), uz_n (by omega)]; exact hcl4.2⟩) (by
                        intro k e2 hk2 hk3
                        by_cases h9 : k = i.toNat
                        · subst h9
                          rw [he_] at hk2
                          cases hk2
                          refine ⟨by rw [f1_ _ _ (by omega)]; exact tt8, by rw [f1_ _ _ (by omega), ev]; exact hev, ?_⟩
                          rw [hpe, uz_n (by omega), hcl4.1, uz_s]
                          exact hev
                        · obtain ⟨a1, a2, a3⟩ := htl k e2 hk2 (by omega)
                          refine ⟨by rw [f1_ _ _ (by omega), (oo8 k h9).1]; exact a1, by rw [f1_ _ _ (by omega), (oo8 k h9).2]; exact a2, ?_⟩
                          rw [hpe, uz_n (by omega), hcl4.1, uz_n (by omega), rr8]
                          exact a3) (by omega) hP hS (lv_sub hl [0, 1, 2, 3, 4] rfl)
set_option maxHeartbeats 4000000 in
set_option maxRecDepth 100000 in
theorem s_Fbecome2 (l : Launch) (dC : Nat → ClassId) (dI : Nat → Nat → Nat) (cI cZ cII cIII : ClassId) (h0 sz : Nat) (μ : va_M) (b : Nat) (ii : Nat) (T : List Tk) (S : List Int) (n : Int) (hb9 : b = 113 + ii * 15) (hi9 : ii < 8) (hlf : lfOK μ b) (hT : tabC μ T) (hS9 : fndC μ S) (hn : n = μ 1 5) : Met l yX1_become (Cond.code yX1_become cX1_become 5 none :: wsG) ({ frames := 3, cells := 0, slots := 0, locals := 58 } : Room) (va_Pc [.ref (h0 + b), .ref (h0 + 4), .int (iZ (n)), .ref (h0 + 1)] (fun U => U.heap.size = sz ∧ va_P (dC, dI) vwCl (fw (sE cI cZ cII cIII h0) h0 233 μ) U.heap ∧ va_K (dC, dI) vwCl (sT cI cZ cII cIII) U ∧ xM U)) (va_Qv (fun (u : va_M) => fr (LfB b) μ u ∧ lfOK u b ∧ lfT u b T S ∧ rowS u (b + 3) (rowT T S) ∧ u (b + 3) 7 = 0) (fun u t => va_P (dC, dI) vwCl (fw (sE cI cZ cII cIII h0) h0 233 u) t.heap ∧ va_K (dC, dI) vwCl (sT cI cZ cII cIII) t) (fA h0 233 sz)) 0 0 (fA h0 233 sz) := by
  refine Met.ofW (cc := cX1_become) (maxL := 5) (ret := none) (by decide) rfl ?_
  intro p e s m args below meth c s₁ B hml hv
  obtain ⟨rfl, hsz, hP, hK, hM⟩ := hv
  have hx := B.exec
  have hb := B.bytes
  have hr := B.returns
  have hts : ∀ w ∈ wsG, w.before _ s = true := hG_of (atoms_spec (ws := (Cond.code yX1_become cX1_become 5 none :: wsG)) B.pre)
  have hown : s.vm.findClass RX1 = some m.cls := findClass_of_methodNamed B.named
  have hlocks := B.notSynchronized
  subst hsz
  have hS : va_S (fA h0 233 s.heap.size) s.heap s.heap [] := va_S.rf
  have hl := lv_entry ([.ref (h0 + b), .ref (h0 + 4), .int (iZ (n)), .ref (h0 + 1)]) (n := 5) (Nat.le_of_ble_eq_true rfl)
  rw [lg_entry_eq]
  generalize (lg_sl ([.ref (h0 + b), .ref (h0 + 4), .int (iZ (n)), .ref (h0 + 1)]) ++ List.replicate (5 - (lg_sl ([.ref (h0 + b), .ref (h0 + 4), .int (iZ (n)), .ref (h0 + 1)])).length) Slot.unset).toArray = ls at hl ⊢
  have hl : lv_has ls 5 [(0, .ref (h0 + b)), (1, .ref (h0 + 4)), (2, .int (iZ (n))), (3, .ref (h0 + 1))] := hl
  have hlb := lf_b hb9 hi9
  obtain ⟨hl1, hl2, hl3, hl4⟩ := hlf
  have hS1 := hS9.1
  refine lv_aload_n hx hb dX1_become_0 rfl (lv_at hl 0 rfl) ?_
  refine fz_get (D := (dC, dI)) (ci := 1) (v := .ref (h0 + (b + 3))) (C := RX1) (T := TX1) (N := 8) hx hb hts inG1 hown hK hP (k := b) (by omega) (F := (sLF h0 b)) (sE_leafO hi9 hb9) rfl 3 (by decide) (hts _ k302) (fun _ h9 => h9) rfl dX1_become_1 ?_
  refine va_callv (va_runV (As := []) (rest := []) ⟨hx, hb, hml, hown, hts⟩ (s_Rempty l dC dI cI cZ cII cIII h0 s.heap.size μ ((b + 3)) (96) ((rowB_L hi9 hb9))) (cwV 0 hts (gV_G k714 k407 k408 k3 k409) rfl rfl rfl (by decide +kernel) ⟨Nat.le_of_ble_eq_true rfl, Nat.le_of_ble_eq_true rfl⟩) ⟨fun a U g mk q => by obtain ⟨q0, q1, qP, qK, qM⟩ := q; exact ⟨q0, q1, qP, va_K.moved (u := U) (U := U.calling g mk a) (Vm.Alike.refl U.vm) qK, qM⟩, va_recv hK hP (ci := 4) (q0 := (b + 3)) rfl ((fw_get (by omega)).trans (by rw [(sE_rowO (rowB_L hi9 hb9))])), fun U hU hW => ⟨rfl, by rw [hU], by rw [hU]; exact hP, va_K.moved hW.alike hK, xM_warm hW hM⟩⟩ rfl rfl hl.1 rfl (lv_room (Nat.le_of_ble_eq_true rfl)) dX1_become_4 ⟨Nat.le_of_ble_eq_true rfl, Nat.le_of_ble_eq_true rfl⟩) hS (fun q _ h => fA_le hS.1 q h) (fA_le hS.1) (fun u9 t9 H1 locs ht9 hvm9 hw9 hB9 hz9 hk9 hS => ?_)
  obtain ⟨hP, -⟩ := hB9
  rw [ht9] at hP
  generalize H1 = H at hP hS ⊢
  obtain ⟨μe, eμe⟩ : ∃ x : va_M, x = u9 := ⟨_, rfl⟩
  rw [← eμe] at hP hw9
  have hμe := hw9; clear hw9
  have he := hμe
  refine lv_aload_n hx hb dX1_become_7 rfl (lv_at hl 0 rfl) ?_
  refine lv_iload_n hx hb dX1_become_8 rfl (lv_at hl 2 rfl) ?_
  refine lv_bipush (v := iZ 60) hx hb dX1_become_9 rfl ?_
  refine va_mmin hx hb (hml.trans hl.1.symm) hown (hts _ k715) (hts _ k501) (hts _ k4) (hts _ k502) (Nat.le_of_ble_eq_true rfl) (Nat.le_of_ble_eq_true rfl) (Nat.le_of_ble_eq_true rfl) (Nat.le_of_ble_eq_true rfl) dX1_become_11 ?_
  refine lv_topi (fun x9 ex9 => ?_)
  obtain rfl : x9 = iZ (min n 60) := ex9.trans (iZ_mn (by constructor <;> omega) (by decide))
  refine fz_put (D := (dC, dI)) (ci := 1) (ty := .int) (z := (min n 60)) (C := RX1) (T := TX1) (N := 8) hx hb hts inG1 tyX1 tyX1_ok nmX1 hown hK hP fA_in hS (k := b) (by omega) (F := (sLF h0 b)) (sE_leafO hi9 hb9) rfl 2 (by decide) (hts _ k300) (fun _ h9 => h9) rfl (by decide +kernel) rfl rfl (fun _ => Nat.le_of_ble_eq_true rfl) (fun _ _ => rfl) dX1_become_14 (fun H locs hP hS => ?_)
  obtain ⟨μ4, eμ4⟩ : ∃ x : va_M, x = uz μe b 2 (min n 60) := ⟨_, rfl⟩
  rw [← eμ4] at hP
  have F0 : fr (LfB b) μ μ4 := by
    rw [eμ4, he]
    exact fr_uz (fr_uz (fr_uz fr_rfl (by unfold LfB; omega)) (by unfold LfB; omega)) (by unfold LfB; omega)
  have O0 : outS μ4 (b + 3) 96 0 := by
    refine outS_0 (fun i => ?_) ?_ ?_
    · rw [eμ4, uz_n (by omega), he, uz_n (by omega), uz_n (by omega)]; exact hl4.1 i
    · rw [eμ4, uz_n (by omega), he, uz_n (by omega), uz_s]
    · rw [eμ4, uz_n (by omega), he, uz_s]
  refine lv_iconst (v := iZ 0) hx hb dX1_become_17 rfl ?_
  refine lv_istore (lv' := [(4, .int (iZ (0))), (0, .ref (h0 + b)), (1, .ref (h0 + 4)), (2, .int (iZ (n))), (3, .ref (h0 + 1))]) hx hb dX1_become_18 hl (by decide) rfl (fun ls hl => ?_)
  refine LX1_become_20p hx hb hml hown hts hK hM (Nat.le_of_ble_eq_true rfl) (Nat.le_of_ble_eq_true rfl) (Nat.le_of_ble_eq_true rfl) (Nat.le_of_ble_eq_true rfl) (μ) (b) (ii) (T) (S) (n) (by assumption) (by assumption) (by exact hT) (by exact hS9) ?_ _ (0) μ4 H locs ls (by omega) (by exact F0) (by exact O0) (by intro j; rw [eμ4, uz_n (by omega), he, uz_n (by omega), uz_n (by omega)]; exact hl2 j) (by intro j; rw [eμ4, uz_n (by omega), he, uz_n (by omega), uz_n (by omega)]; exact hl3 j) (by rw [eμ4, uz_s]; omega) (by intro y; rw [eμ4, uz_n (by omega), he, uz_n (by omega), uz_n (by omega)]) (by exact ⟨by rw [eμ4, uz_n (by omega), he, uz_n (by omega), uz_s], by rw [eμ4, uz_n (by omega), he, uz_s]⟩) (by intro k e2 _ hk3; omega) (Nat.lt_succ_self _) hP hS (lv_sub hl [0, 4, 3, 2, 1] rfl)
  · intro i_5 μ5_ H locs ls q0_5 q1_5 q2_5 q3_5 q4_5 q5_5 q6_5 q7_5 q8_5 hP hS hl
    have hl : lv_has ls 5 [(0, .ref (h0 + b))] := hl
    have Q0 := q0_5
    have Q1 := q1_5
    have Q2 := q2_5
    have Q3 := q3_5
    have Q4 := q4_5
    have Q5 := q5_5
    have Q6 := q6_5
    have Q7 := q7_5
    have Q8 := q8_5
    have S8 : (S.length : Int) = i_5 := by omega
    have w1_ : rW0 (rowT T S) := rowT_W T S (fun k e hk => by have := (hS9.2 k e hk).1; have := hT.1; omega)
    have w2_ : sL (rowT T S) ≤ 96 := by rw [rowT_L]; omega
    have w3_ : (μ5_ (b + 3) 7 = 0 ∧ SA μ5_ (b + 3 + 1) (rowT T S) 0 ∧ μ5_ (b + 3) 5 = sL (rowT T S)) ∨ (μ5_ (b + 3) 7 = 1 ∧ rowT T S = .leaf) := Or.inl ⟨Q6.2, rowT_A T S 0 (fun k e hk => by rw [Nat.zero_add]; exact (Q7 k e hk (by have := (List.getElem?_eq_some_iff.mp hk).1; omega)).2.2), by rw [rowT_L, Q6.1]; omega⟩
    have MZ : mA μ5_ (b + 3) 96 := fun y => by
      rw [show μ5_ (b + 3 + 2) y = μ (b + 3 + 2) y from Q5 y]; exact hl4.2.1 y
    refine lv_aload_n hx hb dX1_become_94 rfl (lv_at hl 0 rfl) ?_
    refine fz_get (D := (dC, dI)) (ci := 1) (v := .ref (h0 + (b + 3))) (C := RX1) (T := TX1) (N := 8) hx hb hts inG1 hown hK hP (k := b) (by omega) (F := (sLF h0 b)) (sE_leafO hi9 hb9) rfl 3 (by decide) (hts _ k302) (fun _ h9 => h9) rfl dX1_become_95 ?_
    refine va_callv (va_runV (As := []) (rest := []) ⟨hx, hb, hml, hown, hts⟩ (s_Rseal l dC dI cI cZ cII cIII h0 H.size μ5_ ((b + 3)) (96) (rowT T S) ((rowB_L hi9 hb9)) (by exact Q1.1) (by exact ⟨w1_, w3_⟩)) (cwV 0 hts (gV_G k721 k415 k416 k3 k417) rfl rfl rfl (by decide +kernel) ⟨Nat.le_of_ble_eq_true rfl, Nat.le_of_ble_eq_true rfl⟩) ⟨fun a U g mk q => by obtain ⟨q0, q1, qP, qK, qM⟩ := q; exact ⟨q0, q1, qP, va_K.moved (u := U) (U := U.calling g mk a) (Vm.Alike.refl U.vm) qK, qM⟩, va_recv hK hP (ci := 4) (q0 := (b + 3)) rfl ((fw_get (by omega)).trans (by rw [(sE_rowO (rowB_L hi9 hb9))])), fun U hU hW => ⟨rfl, by rw [hU], by rw [hU]; exact hP, va_K.moved hW.alike hK, xM_warm hW hM⟩⟩ rfl rfl hl.1 rfl (lv_room (Nat.le_of_ble_eq_true rfl)) dX1_become_98 ⟨Nat.le_of_ble_eq_true rfl, Nat.le_of_ble_eq_true rfl⟩) hS (fun q _ h => fA_le hS.1 q h) (fA_le hS.1) (fun u9 t9 H1 locs ht9 hvm9 hw9 hB9 hz9 hk9 hS => ?_)
    obtain ⟨hP, -⟩ := hB9
    rw [ht9] at hP
    generalize H1 = H at hP hS ⊢
    obtain ⟨μs, eμs⟩ : ∃ x : va_M, x = u9 := ⟨_, rfl⟩
    rw [← eμs] at hP hw9
    have hμs := hw9; clear hw9
    obtain ⟨r5_, f5_⟩ := hμs
    exact W.vret hx hb hr (fun t9 ht9 hW9 => ⟨⟨μs, rfl, (by
                try dsimp only
                have e1 : ∀ x y, (x = b ∨ x = b + 1 ∨ x = b + 2) → μs x y = μ5_ x y := fun x y h => f5_ _ _ (by unfold SEw SEq; omega)
                have hg := rG_seal w1_ w2_ w3_ Q1.2.1 MZ r5_ f5_
                have z5 : μ5_ b 5 = μ b 5 := Q0 _ _ (by unfold LfB; omega)
                refine ⟨fr_trans Q0 (fr_mono f5_ (fun x y h => by unfold SEw SEq at h; unfold LfB; omega)), ⟨?_, fun j => by rw [e1 _ _ (by omega)]; exact Q2 j, fun j => by rw [e1 _ _ (by omega)]; exact Q3 j, hg⟩, ⟨by rw [e1 _ _ (by omega), Q4]; omega, fun k e hk => ?_⟩, r5_, by rw [f5_ _ _ (by unfold SEw SEq; omega)]; exact Q6.2⟩
                · rw [e1 _ _ (by omega), e1 _ _ (by omega), z5, Q4]
                  omega
                · obtain ⟨a1, a2, a3⟩ := Q7 k e hk (by have := (List.getElem?_eq_some_iff.mp hk).1; omega)
                  exact ⟨by rw [e1 _ _ (by omega)]; exact a1, by rw [e1 _ _ (by omega)]; exact a2⟩), by rw [ht9]; exact hP, va_K.moved hW9.alike hK⟩, hS.F ht9⟩) hS.2.2 dX1_become_101

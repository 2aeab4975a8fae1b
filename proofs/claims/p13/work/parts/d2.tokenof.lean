
/-! tokenOf of the class, told whole -/
/-- 1 where one of the first n is tk, 0 where none is -/
def hz9 (f : Nat → Int) (tk : Int) : Nat → Int
  | 0 => 0
  | k + 1 => if f k = tk then 1 else hz9 f tk k
theorem hz9_01 {f : Nat → Int} {tk : Int} : ∀ n, hz9 f tk n = 0 ∨ hz9 f tk n = 1
  | 0 => Or.inl rfl
  | n + 1 => by
    rw [hz9]
    split
    · exact Or.inr rfl
    · exact hz9_01 n
theorem hz9_yes {f : Nat → Int} {tk : Int} {k : Nat} (h : f k = tk) : ∀ n, k < n → hz9 f tk n = 1
  | 0, hn => absurd hn (by omega)
  | n + 1, hn => by
    rw [hz9]
    by_cases e : f n = tk
    · rw [if_pos e]
    · rw [if_neg e]
      exact hz9_yes h n (by rcases Nat.lt_or_ge k n with h2 | h2; exact h2; exact absurd ((show n = k by omega) ▸ h) e)
theorem hz9_no {f : Nat → Int} {tk : Int} {k : Nat} (h : hz9 f tk k = 0) (h2 : ¬ f k = tk) : hz9 f tk (k + 1) = 0 := by rw [hz9, if_neg h2]; exact h
theorem hz9_eq {f g : Nat → Int} {tk : Int} : ∀ n : Nat, (∀ k, k < n → f k = g k) → hz9 f tk n = hz9 g tk n
  | 0, _ => rfl
  | n + 1, h => by rw [hz9, hz9, h n (by omega), hz9_eq n (fun k hk => h k (by omega))]
/-- how many of the first n pages have it: F p the p-th one's tokens, L p how many -/
def pw9 (F : Nat → Nat → Int) (L : Nat → Int) (tk : Int) : Nat → Int
  | 0 => 0
  | p + 1 => pw9 F L tk p + hz9 (F p) tk (L p).toNat
theorem pw9_b {F : Nat → Nat → Int} {L : Nat → Int} {tk : Int} : ∀ n, 0 ≤ pw9 F L tk n ∧ pw9 F L tk n ≤ n
  | 0 => ⟨Int.le_refl _, Int.le_refl _⟩
  | n + 1 => by
    have h := pw9_b (F := F) (L := L) (tk := tk) n
    have h2 := hz9_01 (f := F n) (tk := tk) (L n).toNat
    rw [pw9]
    omega
theorem pw9_eq {F G : Nat → Nat → Int} {L M : Nat → Int} {tk : Int} : ∀ n : Nat, (∀ p, p < n → L p = M p ∧ ∀ k : Nat, (k : Int) < L p → F p k = G p k) → pw9 F L tk n = pw9 G M tk n
  | 0, _ => rfl
  | n + 1, h => by
    obtain ⟨h1, h2⟩ := h n (by omega)
    rw [pw9, pw9, pw9_eq n (fun p hp => h p (by omega)), ← h1, hz9_eq (f := F n) (g := G n) _ (fun k hk => h2 k (by omega))]
def pwC (μ : va_M) (tk : Int) (n : Nat) : Int := pw9 (fun p => μ (113 + p * 15 + 1)) (fun p => μ (113 + p * 15) 2) tk n
theorem pwC_s {μ : va_M} {tk : Int} {n : Nat} : pwC μ tk (n + 1) = pwC μ tk n + hz9 (μ (113 + n * 15 + 1)) tk (μ (113 + n * 15) 2).toNat := rfl
set_option maxHeartbeats 4000000 in
set_option maxRecDepth 100000 in
theorem LX1_has_2b {p : Program} {l : Launch} {e : Env} {R : Room} {s : State} {m : MethodId} {args : Array Value} {below : List Frame} {meth : Method} {c : Code} {cells slots : Nat} {Q : State → Prop} {dC : Nat → ClassId} {dI : Nat → Nat → Nat} {h0 : Nat} {cI cZ cII cIII : ClassId} (hx : p.tables.exec = Jvm.exec) (hb : c.code = cX1_has) (hml : c.maxLocals = 3) (hown : s.vm.findClass RX1 = some m.cls) (hts : ∀ w ∈ wsG, w.before args s = true) (hK : va_K (dC, dI) vwCl (sT cI cZ cII cIII) s) (hM : xM s) (hRf : 1 ≤ R.frames) (hRl : 14 ≤ R.locals) (hRc : cells ≤ R.cells) (hRs : slots ≤ R.slots) (μ0 : va_M) (b : Nat) (ii : Nat) (tk : Int) (hb9 : b = 113 + ii * 15) (hi9 : ii < 8) (hlf : lfOK μ0 b) (htk : inR tk) (hexit20 : ∀ (i : Int) (μ : va_M) (H : Heap) (locs : List Loc) (ls : Array Slot), (μ = μ0) → (hz9 (μ0 (b + 1)) tk (μ0 b 2).toNat = 1) → va_P (dC, dI) vwCl (fw (sE cI cZ cII cIII h0) h0 233 μ) H → va_S (fA h0 233 s.heap.size) s.heap H locs → lv_has ls 3 [] → W p l e R s m args below meth c H locs cells slots Q (F0 m 20 ls [])) (hexit28 : ∀ (i : Int) (μ : va_M) (H : Heap) (locs : List Loc) (ls : Array Slot), (μ = μ0) → (hz9 (μ0 (b + 1)) tk (μ0 b 2).toNat = 0) → va_P (dC, dI) vwCl (fw (sE cI cZ cII cIII h0) h0 233 μ) H → va_S (fA h0 233 s.heap.size) s.heap H locs → lv_has ls 3 [] → W p l e R s m args below meth c H locs cells slots Q (F0 m 28 ls [])) :
    ∀ (n9 : Nat) (i : Int) (μ : va_M) (H : Heap) (locs : List Loc) (ls : Array Slot), (μ = μ0) → (0 ≤ i ∧ i ≤ 60) → (hz9 (μ0 (b + 1)) tk i.toNat = 0) → (i ≤ μ0 b 2) → (61 - i).toNat < n9 → va_P (dC, dI) vwCl (fw (sE cI cZ cII cIII h0) h0 233 μ) H → va_S (fA h0 233 s.heap.size) s.heap H locs → lv_has ls 3 [(2, .int (iZ (i))), (1, .int (iZ (tk))), (0, .ref (h0 + b))] → W p l e R s m args below meth c H locs cells slots Q (F0 m 2 ls []) := by
  intro n9
  induction n9 with
  | zero => intro i μ H locs ls hm9_ hi hz hi9_ hm9 hP hS hl; exact absurd hm9 (Nat.not_lt_zero _)
  | succ n9 ih =>
    intro i μ H locs ls hm9_ hi hz hi9_ hm9 hP hS hl
    subst hm9_
    have hlb := lf_b hb9 hi9
    obtain ⟨l1_, l2_, l3_, l4_⟩ := hlf
    refine lv_iload_n hx hb dX1_has_2 rfl (lv_at hl 0 rfl) ?_
    refine lv_aload_n hx hb dX1_has_3 rfl (lv_at hl 2 rfl) ?_
    refine fz_get (D := (dC, dI)) (ci := 1) (v := .int (iZ (μ b 2))) (C := RX1) (T := TX1) (N := 8) hx hb hts inG1 hown hK hP (k := b) (by omega) (F := (sLF h0 b)) (sE_leafO hi9 hb9) rfl 2 (by decide) (hts _ k300) (fun _ h9 => h9) rfl dX1_has_4 ?_
    refine fz_icmp_ge (tgt := 28) (by constructor <;> omega) (by constructor <;> omega) hx hb dX1_has_7 (by decide) (fun c7_ => ?_) (fun c7_ => ?_)
    · exact hexit28 (i) μ H locs ls (by rfl) (by rw [show (μ b 2).toNat = i.toNat by omega]; exact hz) hP hS (lv_sub hl [] rfl)
    · have ht := l2_ i.toNat
      refine lv_aload_n hx hb dX1_has_10 rfl (lv_at hl 2 rfl) ?_
      refine fz_get (D := (dC, dI)) (ci := 1) (v := .ref (h0 + (b + 1))) (C := RX1) (T := TX1) (N := 8) hx hb hts inG1 hown hK hP (k := b) (by omega) (F := (sLF h0 b)) (sE_leafO hi9 hb9) rfl 0 (by decide) (hts _ k296) (fun _ h9 => h9) rfl dX1_has_11 ?_
      refine lv_iload_n hx hb dX1_has_14 rfl (lv_at hl 0 rfl) ?_
      refine fz_ld (k := (b + 1)) (n := 60) hx hb hK hP 0 (by omega) (sE_leafA 1 60 hi9 hb9 (by decide)) rfl ⟨by omega, by omega⟩ (by decide) dX1_has_15 ?_
      refine lv_iload_n hx hb dX1_has_16 rfl (lv_at hl 1 rfl) ?_
      refine fz_icmp_ne (tgt := 22) (by first | (constructor <;> omega) | exact htk) (by first | (constructor <;> omega) | exact htk) hx hb dX1_has_17 (by decide) (fun c17_ => ?_) (fun c17_ => ?_)
      · refine lv_iinc (v := iZ (i + 1)) (lv' := [(2, .int (iZ (i + 1))), (1, .int (iZ (tk))), (0, .ref (h0 + b))]) hx hb dX1_has_22 hl (k := 0) rfl (iZ_add _ _) (by decide) rfl (fun ls hl => ?_)
        refine lv_goto (tgt := 2) hx hb dX1_has_25 (by decide) ?_
        exact ih (i + 1) μ H locs ls (by rfl) (by omega) (by rw [show (i + 1).toNat = i.toNat + 1 by omega]; exact hz9_no hz (by assumption)) (by omega) (by omega) hP hS (lv_sub hl [0, 1, 2] rfl)
      · exact hexit20 (i) μ H locs ls (by rfl) (by exact hz9_yes (k := i.toNat) (by omega) _ (by omega)) hP hS (lv_sub hl [] rfl)
set_option maxHeartbeats 4000000 in
set_option maxRecDepth 100000 in
theorem s_Fhas2 (l : Launch) (dC : Nat → ClassId) (dI : Nat → Nat → Nat) (cI cZ cII cIII : ClassId) (h0 sz : Nat) (μ : va_M) (b : Nat) (ii : Nat) (tk : Int) (hb9 : b = 113 + ii * 15) (hi9 : ii < 8) (hlf : lfOK μ b) (htk : inR tk) : Met l yX1_has (Cond.code yX1_has cX1_has 3 (some .boolean) :: wsG) ({ frames := 1, cells := 0, slots := 0, locals := 14 } : Room) (va_Pc [.ref (h0 + b), .int (iZ (tk))] (fun U => U.heap.size = sz ∧ va_P (dC, dI) vwCl (fw (sE cI cZ cII cIII h0) h0 233 μ) U.heap ∧ va_K (dC, dI) vwCl (sT cI cZ cII cIII) U ∧ xM U)) (va_Qi (fun (r9 : Int32) (u : va_M × Int) => r9 = iZ u.2 ∧ (fun (u : va_M) (r : Int) => u = μ ∧ r = hz9 (μ (b + 1)) tk (μ b 2).toNat) u.1 u.2) (fun u t => va_P (dC, dI) vwCl (fw (sE cI cZ cII cIII h0) h0 233 u.1) t.heap ∧ va_K (dC, dI) vwCl (sT cI cZ cII cIII) t) (fA h0 233 sz)) 0 0 (fA h0 233 sz) := by
  refine Met.ofW (cc := cX1_has) (maxL := 3) (ret := (some .boolean)) (by decide) rfl ?_
  intro p e s m args below meth c s₁ B hml hv
  obtain ⟨rfl, hsz, hP, hK, hM⟩ := hv
  have hx := B.exec
  have hb := B.bytes
  have hr := B.returns
  have hts : ∀ w ∈ wsG, w.before _ s = true := hG_of (atoms_spec (ws := (Cond.code yX1_has cX1_has 3 (some .boolean) :: wsG)) B.pre)
  have hown : s.vm.findClass RX1 = some m.cls := findClass_of_methodNamed B.named
  have hlocks := B.notSynchronized
  subst hsz
  have hS : va_S (fA h0 233 s.heap.size) s.heap s.heap [] := va_S.rf
  have hl := lv_entry ([.ref (h0 + b), .int (iZ (tk))]) (n := 3) (Nat.le_of_ble_eq_true rfl)
  rw [lg_entry_eq]
  generalize (lg_sl ([.ref (h0 + b), .int (iZ (tk))]) ++ List.replicate (3 - (lg_sl ([.ref (h0 + b), .int (iZ (tk))])).length) Slot.unset).toArray = ls at hl ⊢
  have hl : lv_has ls 3 [(0, .ref (h0 + b)), (1, .int (iZ (tk)))] := hl
  have hlb := lf_b hb9 hi9
  refine lv_iconst (v := iZ 0) hx hb dX1_has_0 rfl ?_
  refine lv_istore_n (lv' := [(2, .int (iZ (0))), (0, .ref (h0 + b)), (1, .int (iZ (tk)))]) hx hb dX1_has_1 rfl hl (by decide) rfl (fun ls hl => ?_)
  refine LX1_has_2b hx hb hml hown hts hK hM (Nat.le_of_ble_eq_true rfl) (Nat.le_of_ble_eq_true rfl) (Nat.le_of_ble_eq_true rfl) (Nat.le_of_ble_eq_true rfl) (μ) (b) (ii) (tk) (by assumption) (by assumption) (by exact hlf) (by assumption) ?_ ?_ _ (0) μ s.heap [] ls (by rfl) (by decide) (by rfl) (by exact hlf.1.1.1) (Nat.lt_succ_self _) hP hS (lv_sub hl [0, 2, 1] rfl)
  · intro i_1 μ1_ H locs ls q1_1 q4_1 hP hS hl
    have hl : lv_has ls 3 [] := hl
    have hPn20 := hP
    obtain rfl := q1_1
    have hP := hPn20
    refine lv_iconst (v := iZ 1) hx hb dX1_has_20 rfl ?_
    exact W.zret (v := iZ (1)) hx hb hr (by decide +kernel) (fun t9 ht9 hW9 => ⟨⟨iZ (1), (μ1_, 1), rfl, ⟨rfl, (by
                dsimp only
                first | exact ⟨rfl, q4_1.symm⟩ | exact ⟨rfl, q5_1.symm⟩)⟩, by rw [ht9]; exact hP, va_K.moved hW9.alike hK⟩, hS.F ht9⟩) hS.2.2 dX1_has_21
  · intro i_2 μ2_ H locs ls q3_2 q5_2 hP hS hl
    have hl : lv_has ls 3 [] := hl
    have hPn28 := hP
    obtain rfl := q3_2
    have hP := hPn28
    refine lv_iconst (v := iZ 0) hx hb dX1_has_28 rfl ?_
    exact W.zret (v := iZ (0)) hx hb hr (by decide +kernel) (fun t9 ht9 hW9 => ⟨⟨iZ (0), (μ2_, 0), rfl, ⟨rfl, (by
                dsimp only
                first | exact ⟨rfl, q4_2.symm⟩ | exact ⟨rfl, q5_2.symm⟩)⟩, by rw [ht9]; exact hP, va_K.moved hW9.alike hK⟩, hS.F ht9⟩) hS.2.2 dX1_has_29
set_option maxHeartbeats 4000000 in
set_option maxRecDepth 100000 in
theorem LX9_pagesWith_4b {p : Program} {l : Launch} {e : Env} {R : Room} {s : State} {m : MethodId} {args : Array Value} {below : List Frame} {meth : Method} {c : Code} {cells slots : Nat} {Q : State → Prop} {dC : Nat → ClassId} {dI : Nat → Nat → Nat} {h0 : Nat} {cI cZ cII cIII : ClassId} (hx : p.tables.exec = Jvm.exec) (hb : c.code = cX9_pagesWith) (hml : c.maxLocals = 4) (hown : s.vm.findClass RX9 = some m.cls) (hts : ∀ w ∈ wsG, w.before args s = true) (hK : va_K (dC, dI) vwCl (sT cI cZ cII cIII) s) (hM : xM s) (hRf : 2 ≤ R.frames) (hRl : 36 ≤ R.locals) (hRc : cells ≤ R.cells) (hRs : slots ≤ R.slots) (μ0 : va_M) (T : List Tk) (tk : Int) (hI : CI T μ0) (htk : inR tk) (hexit34 : ∀ (i : Int) (wi : Int) (μ : va_M) (H : Heap) (locs : List Loc) (ls : Array Slot), (μ = μ0) → (wi = pwC μ0 tk (μ0 0 2).toNat) → va_P (dC, dI) vwCl (fw (sE cI cZ cII cIII h0) h0 233 μ) H → va_S (fA h0 233 s.heap.size) s.heap H locs → lv_has ls 4 [(2, .int (iZ (wi)))] → W p l e R s m args below meth c H locs cells slots Q (F0 m 34 ls [])) :
    ∀ (n9 : Nat) (i : Int) (wi : Int) (μ : va_M) (H : Heap) (locs : List Loc) (ls : Array Slot), (μ = μ0) → (0 ≤ i ∧ i ≤ μ0 0 2) → (wi = pwC μ0 tk i.toNat) → (9 - i).toNat < n9 → va_P (dC, dI) vwCl (fw (sE cI cZ cII cIII h0) h0 233 μ) H → va_S (fA h0 233 s.heap.size) s.heap H locs → lv_has ls 4 [(3, .int (iZ (i))), (2, .int (iZ (wi))), (1, .int (iZ (tk))), (0, .ref h0)] → W p l e R s m args below meth c H locs cells slots Q (F0 m 4 ls []) := by
  intro n9
  induction n9 with
  | zero => intro i wi μ H locs ls hm9_ hi hw9_ hm9 hP hS hl; exact absurd hm9 (Nat.not_lt_zero _)
  | succ n9 ih =>
    intro i wi μ H locs ls hm9_ hi hw9_ hm9 hP hS hl
    subst hm9_
    have hlc := CI_lc hI
    have hpb := pw9_b (F := fun p => μ (113 + p * 15 + 1)) (L := fun p => μ (113 + p * 15) 2) (tk := tk) i.toNat
    refine lv_iload_n hx hb dX9_pagesWith_4 rfl (lv_at hl 0 rfl) ?_
    refine lv_aload_n hx hb dX9_pagesWith_5 rfl (lv_at hl 3 rfl) ?_
    refine fz_get (D := (dC, dI)) (ci := 9) (v := .int (iZ (μ 0 2))) (C := RX9) (T := TX9) (N := 15) hx hb hts inG9 hown hK hP (k := 0) (by decide) (F := (sF0 h0)) sE_0 rfl 2 (by decide) (hts _ k334) (fun _ h9 => h9) rfl dX9_pagesWith_6 ?_
    refine fz_icmp_ge (tgt := 34) (by constructor <;> omega) (by constructor <;> omega) hx hb dX9_pagesWith_9 (by decide) (fun c9_ => ?_) (fun c9_ => ?_)
    · exact hexit34 (i) (wi) μ H locs ls (by rfl) (by rw [hw9_, show i.toNat = (μ 0 2).toNat by omega]) hP hS (lv_sub hl [1] rfl)
    · obtain ⟨hl1, hl2⟩ := CI_lf hI i hi.1 (by omega)
      refine lv_aload_n hx hb dX9_pagesWith_12 rfl (lv_at hl 3 rfl) ?_
      refine fz_get (D := (dC, dI)) (ci := 9) (v := .ref (h0 + 5)) (C := RX9) (T := TX9) (N := 15) hx hb hts inG9 hown hK hP (k := 0) (by decide) (F := (sF0 h0)) sE_0 rfl 1 (by decide) (hts _ k333) (fun _ h9 => h9) rfl dX9_pagesWith_13 ?_
      refine lv_iload_n hx hb dX9_pagesWith_16 rfl (lv_at hl 0 rfl) ?_
      refine fz_ald (k := 5) (n := 8) (k2 := (113 + (i).toNat * 15)) hx hb hK hP 1 rfl (by decide) sE_5 rfl ⟨by omega, by omega⟩ (by decide) (if_pos (by omega)) dX9_pagesWith_17 ?_
      refine lv_iload_n hx hb dX9_pagesWith_18 rfl (lv_at hl 2 rfl) ?_
      refine va_calli (va_runV (As := [.int (iZ (tk))]) (rest := []) ⟨hx, hb, hml, hown, hts⟩ (s_Fhas2 l dC dI cI cZ cII cIII h0 H.size μ ((113 + (i).toNat * 15)) ((i).toNat) (tk) (rfl) ((show (i).toNat < 8 by omega)) (by exact hl1) (by exact htk)) (cwV 1 hts (gV_G k898 k899 k900 k10 k901) rfl rfl rfl (by decide +kernel) ⟨by show 1 + 1 ≤ _; omega, by show 8 + (3 + 11) + (14) ≤ _; omega⟩) ⟨fun a U g mk q => by obtain ⟨q0, q1, qP, qK, qM⟩ := q; exact ⟨q0, q1, qP, va_K.moved (u := U) (U := U.calling g mk a) (Vm.Alike.refl U.vm) qK, qM⟩, va_recv hK hP (ci := 1) (q0 := (113 + (i).toNat * 15)) rfl ((fw_get (by omega)).trans (by rw [(sE_leafO (show (i).toNat < 8 by omega) rfl)])), fun U hU hW => ⟨rfl, by rw [hU], by rw [hU]; exact hP, va_K.moved hW.alike hK, xM_warm hW hM⟩⟩ rfl rfl hl.1 rfl (lv_room (Nat.le_of_ble_eq_true rfl)) dX9_pagesWith_19 ⟨hRc, hRs⟩) hS (fun q _ h => fA_le hS.1 q h) (fA_le hS.1) (fun r9 u9 t9 H1 locs ht9 hvm9 hw9 hB9 hz9 hk9 hS => ?_)
      obtain ⟨μh, rh⟩ := u9
      obtain ⟨hP, -⟩ := hB9
      rw [ht9] at hP
      generalize H1 = H at hP hS ⊢
      obtain ⟨e9, hw9⟩ := hw9
      have e9 : r9 = iZ rh := e9
      subst e9
      simp only at hP hw9
      have hμh := hw9; clear hw9
      rw [hμh.1] at hP; have hμh := hμh.2
      have hrh := hμh
      have h01 := hz9_01 (f := μ (113 + i.toNat * 15 + 1)) (tk := tk) (μ (113 + i.toNat * 15) 2).toNat
      rw [← hrh] at h01
      refine fz_if_eq (tgt := 28) (by constructor <;> omega) hx hb dX9_pagesWith_22 (by decide) (fun c22_ => ?_) (fun c22_ => ?_)
      · refine lv_iinc (v := iZ (i + 1)) (lv' := [(3, .int (iZ (i + 1))), (2, .int (iZ (wi))), (1, .int (iZ (tk))), (0, .ref h0)]) hx hb dX9_pagesWith_28 hl (k := 0) rfl (iZ_add _ _) (by decide) rfl (fun ls hl => ?_)
        refine lv_goto (tgt := 4) hx hb dX9_pagesWith_31 (by decide) ?_
        exact ih (i + 1) (wi) μ H locs ls (by rfl) (by omega) (by rw [show (i + 1).toNat = i.toNat + 1 by omega, pwC_s, ← hw9_, ← hrh]; omega) (by omega) hP hS (lv_sub hl [0, 1, 2, 3] rfl)
      · refine lv_iinc (v := iZ (wi + 1)) (lv' := [(2, .int (iZ (wi + 1))), (3, .int (iZ (i))), (1, .int (iZ (tk))), (0, .ref h0)]) hx hb dX9_pagesWith_25 hl (k := 1) rfl (iZ_add _ _) (by decide) rfl (fun ls hl => ?_)
        refine lv_iinc (v := iZ (i + 1)) (lv' := [(3, .int (iZ (i + 1))), (2, .int (iZ (wi + 1))), (1, .int (iZ (tk))), (0, .ref h0)]) hx hb dX9_pagesWith_28 hl (k := 1) rfl (iZ_add _ _) (by decide) rfl (fun ls hl => ?_)
        refine lv_goto (tgt := 4) hx hb dX9_pagesWith_31 (by decide) ?_
        exact ih (i + 1) (wi + 1) μ H locs ls (by rfl) (by omega) (by rw [show (i + 1).toNat = i.toNat + 1 by omega, pwC_s, ← hw9_, ← hrh]; omega) (by omega) hP hS (lv_sub hl [0, 1, 2, 3] rfl)
set_option maxHeartbeats 4000000 in
set_option maxRecDepth 100000 in
theorem s_pagesWith2 (l : Launch) (dC : Nat → ClassId) (dI : Nat → Nat → Nat) (cI cZ cII cIII : ClassId) (h0 sz : Nat) (μ : va_M) (T : List Tk) (tk : Int) (hI : CI T μ) (htk : inR tk) : Met l yX9_pagesWith (Cond.code yX9_pagesWith cX9_pagesWith 4 (some .int) :: wsG) ({ frames := 2, cells := 0, slots := 0, locals := 36 } : Room) (va_Pc [.ref h0, .int (iZ (tk))] (fun U => U.heap.size = sz ∧ va_P (dC, dI) vwCl (fw (sE cI cZ cII cIII h0) h0 233 μ) U.heap ∧ va_K (dC, dI) vwCl (sT cI cZ cII cIII) U ∧ xM U)) (va_Qi (fun (r9 : Int32) (u : va_M × Int) => r9 = iZ u.2 ∧ (fun (u : va_M) (r : Int) => u = μ ∧ r = pwC μ tk (μ 0 2).toNat) u.1 u.2) (fun u t => va_P (dC, dI) vwCl (fw (sE cI cZ cII cIII h0) h0 233 u.1) t.heap ∧ va_K (dC, dI) vwCl (sT cI cZ cII cIII) t) (fA h0 233 sz)) 0 0 (fA h0 233 sz) := by
  refine Met.ofW (cc := cX9_pagesWith) (maxL := 4) (ret := (some .int)) (by decide) rfl ?_
  intro p e s m args below meth c s₁ B hml hv
  obtain ⟨rfl, hsz, hP, hK, hM⟩ := hv
  have hx := B.exec
  have hb := B.bytes
  have hr := B.returns
  have hts : ∀ w ∈ wsG, w.before _ s = true := hG_of (atoms_spec (ws := (Cond.code yX9_pagesWith cX9_pagesWith 4 (some .int) :: wsG)) B.pre)
  have hown : s.vm.findClass RX9 = some m.cls := findClass_of_methodNamed B.named
  have hlocks := B.notSynchronized
  subst hsz
  have hS : va_S (fA h0 233 s.heap.size) s.heap s.heap [] := va_S.rf
  have hl := lv_entry ([.ref h0, .int (iZ (tk))]) (n := 4) (Nat.le_of_ble_eq_true rfl)
  rw [lg_entry_eq]
  generalize (lg_sl ([.ref h0, .int (iZ (tk))]) ++ List.replicate (4 - (lg_sl ([.ref h0, .int (iZ (tk))])).length) Slot.unset).toArray = ls at hl ⊢
  have hl : lv_has ls 4 [(0, .ref h0), (1, .int (iZ (tk)))] := hl
  refine lv_iconst (v := iZ 0) hx hb dX9_pagesWith_0 rfl ?_
  refine lv_istore_n (lv' := [(2, .int (iZ (0))), (0, .ref h0), (1, .int (iZ (tk)))]) hx hb dX9_pagesWith_1 rfl hl (by decide) rfl (fun ls hl => ?_)
  refine lv_iconst (v := iZ 0) hx hb dX9_pagesWith_2 rfl ?_
  refine lv_istore_n (lv' := [(3, .int (iZ (0))), (2, .int (iZ (0))), (0, .ref h0), (1, .int (iZ (tk)))]) hx hb dX9_pagesWith_3 rfl hl (by decide) rfl (fun ls hl => ?_)
  refine LX9_pagesWith_4b hx hb hml hown hts hK hM (Nat.le_of_ble_eq_true rfl) (Nat.le_of_ble_eq_true rfl) (Nat.le_of_ble_eq_true rfl) (Nat.le_of_ble_eq_true rfl) (μ) (T) (tk) (by exact hI) (by assumption) ?_ _ (0) (0) μ s.heap [] ls (by rfl) (by have := CI_lc hI; omega) (by rfl) (Nat.lt_succ_self _) hP hS (lv_sub hl [0, 1, 3, 2] rfl)
  · intro i_1 wi_1 μ1_ H locs ls q1_1 q2_1 hP hS hl
    have hl : lv_has ls 4 [(2, .int (iZ (wi_1)))] := hl
    have hPn34 := hP
    obtain rfl := q1_1
    have hP := hPn34
    refine lv_iload_n hx hb dX9_pagesWith_34 rfl (lv_at hl 0 rfl) ?_
    exact W.iret (v := iZ (wi_1)) hx hb hr (fun t9 ht9 hW9 => ⟨⟨iZ (wi_1), (μ1_, wi_1), rfl, ⟨rfl, (by
                dsimp only
                all_goals exact ⟨rfl, q2_1⟩)⟩, by rw [ht9]; exact hP, va_K.moved hW9.alike hK⟩, hS.F ht9⟩) hS.2.2 dX9_pagesWith_35
set_option maxHeartbeats 4000000 in
set_option maxRecDepth 100000 in
theorem t_tokenOf (l : Launch) (hfl : l.stackTraces = false) (dC : Nat → ClassId) (dI : Nat → Nat → Nat) (cI cZ cII cIII : ClassId) (h0 sz : Nat) (μ : va_M) (tk : Int) (wh : Int) (T : List Tk) (hI : CI T μ) (h_tk : inR tk) (h_wh : inR wh) (hV : tabV T) : vx_Met l yX9_tokenOf (Cond.code yX9_tokenOf cX9_tokenOf 3 (some .int) :: wsG) ({ frames := 7, cells := 1, slots := 6, locals := 110 } : Room) (va_Pc [.ref h0, .int (iZ (tk)), .int (iZ (wh))] (fun U => U.heap.size = sz ∧ va_P (dC, dI) vwCl (fw (sE cI cZ cII cIII h0) h0 233 μ) U.heap ∧ va_K (dC, dI) vwCl (sT cI cZ cII cIII) U ∧ xM U ∧ xX (fA h0 233 sz) U)) (va_Qi (fun (r9 : Int32) (u : va_M × Int) => r9 = iZ u.2 ∧ (fun (u : va_M) (r : Int) => CI T u ∧ SZ μ u ∧ (0 ≤ tk ∧ tk < μ 1 3) ∧ (0 ≤ wh ∧ wh ≤ 8) ∧ (∀ te : Tk, T[tk.toNat]? = some te → r = tkA te wh (pwC μ tk (μ 0 2).toNat))) u.1 u.2) (fun u t => va_P (dC, dI) vwCl (fw (sE cI cZ cII cIII h0) h0 233 u.1) t.heap ∧ va_K (dC, dI) vwCl (sT cI cZ cII cIII) t) (fA h0 233 sz)) (vx_X (fun (u : va_M) => CI T u ∧ SZ μ u) (fun E u t => E ∈ (["java/util/NoSuchElementException", "java/lang/IllegalArgumentException"] : List String) ∧ va_P (dC, dI) vwCl (fw (sE cI cZ cII cIII h0) h0 233 u) t.heap ∧ va_K (dC, dI) vwCl (sT cI cZ cII cIII) t ∧ ((E = "java/util/NoSuchElementException" → cd2 (0 ≤ tk ∧ tk < μ 1 3) (0 ≤ wh ∧ wh ≤ 8) = 1) ∧ (E = "java/lang/IllegalArgumentException" → cd2 (0 ≤ tk ∧ tk < μ 1 3) (0 ≤ wh ∧ wh ≤ 8) = 2))) (fA h0 233 sz)) 1 6 (fA h0 233 sz) := by
  refine vx_ofW (cc := cX9_tokenOf) (maxL := 3) (ret := (some .int)) (by decide) rfl ?_
  intro p e s m args below meth c s₁ B hml hnt hv
  obtain ⟨rfl, hsz, hP, hK, hM, hEx⟩ := hv
  have hx := B.exec
  have hb := B.bytes
  have hr := B.returns
  have hts : ∀ w ∈ wsG, w.before _ s = true := hG_of (atoms_spec (ws := (Cond.code yX9_tokenOf cX9_tokenOf 3 (some .int) :: wsG)) B.pre)
  have hown : s.vm.findClass RX9 = some m.cls := findClass_of_methodNamed B.named
  have hlocks := B.notSynchronized
  subst hsz
  have hS : va_S (fA h0 233 s.heap.size) s.heap s.heap [] := va_S.rf
  have hl := lv_entry ([.ref h0, .int (iZ (tk)), .int (iZ (wh))]) (n := 3) (Nat.le_of_ble_eq_true rfl)
  rw [lg_entry_eq]
  generalize (lg_sl ([.ref h0, .int (iZ (tk)), .int (iZ (wh))]) ++ List.replicate (3 - (lg_sl ([.ref h0, .int (iZ (tk)), .int (iZ (wh))])).length) Slot.unset).toArray = ls at hl ⊢
  have hl : lv_has ls 3 [(0, .ref h0), (1, .int (iZ (tk))), (2, .int (iZ (wh)))] := hl
  have hlc := CI_lc hI
  have h66 := CI_n6 hI
  have ht13 := hI.1.1.1.1
  refine lv_aload_n hx hb dX9_tokenOf_0 rfl (lv_at hl 0 rfl) ?_
  refine lv_iload_n hx hb dX9_tokenOf_1 rfl (lv_at hl 1 rfl) ?_
  refine fz_if_lt (tgt := 20) (by first | assumption | (constructor <;> omega) | decide) hx hb dX9_tokenOf_2 (by decide) (fun c2_ => ?_) (fun c2_ => ?_)
  · refine lv_iconst (v := iZ 0) hx hb dX9_tokenOf_20 rfl ?_
    refine vx_callv (vx_runV (As := [.int (iZ (0))]) (rest := []) ⟨hx, hb, hml, hown, hts⟩ (x_needElement l hfl dC dI cI cZ cII cIII h0 s.heap.size μ  ) (cwV 1 hts (gV_G k739 k741 ks_yX9_needElement k1 k742) rfl rfl rfl (by decide +kernel) ⟨Nat.le_of_ble_eq_true rfl, Nat.le_of_ble_eq_true rfl⟩) ⟨fun a U g mk q => by obtain ⟨q0, q1, qP, qK, qM, qE⟩ := q; exact ⟨q0, q1, qP, va_K.moved (u := U) (U := U.calling g mk a) (Vm.Alike.refl U.vm) qK, qM, xX_call qE⟩, va_recv hK hP (ci := 9) (q0 := 0) rfl ((fw_get (by decide)).trans (by rw [sE_0]; rfl)), fun U hU hW => ⟨rfl, by rw [hU], by rw [hU]; exact hP, va_K.moved hW.alike hK, xM_warm hW hM, xX_at hEx hS (fun q h => fA_le hS.1 q h) hU hW⟩⟩ rfl rfl hl.1 rfl (lv_room (Nat.le_of_ble_eq_true rfl)) dX9_tokenOf_21 ⟨Nat.le_of_ble_eq_true rfl, Nat.le_of_ble_eq_true rfl⟩) hS (fun q _ h => fA_le hS.1 q h) (fA_le hS.1) (fun q _ h => fA_le hS.1 q h) (fun E9 ce9 q9 u9 t9 H1 locs ht9 hvm9 hpx9 hBX9 hz9 hk9 hS hce9 hcv9 hcl9 => ?_) (fun u9 t9 H1 locs ht9 hvm9 hw9 hB9 hz9 hk9 hS => hw9.elim)
    obtain ⟨hE9, hP9, hK9⟩ := hBX9
    exact vx_out (fun x hx9 => (hnt x hx9).elim) hlocks hce9 hcv9 hcl9 (fun t8 ht8 hW8 => ⟨u9, (by
                show CI T u9 ∧ SZ μ u9
                exact CZ_thr hI hpx9), ⟨(show ∀ z ∈ (["java/util/NoSuchElementException"] : List String), z ∈ (["java/util/NoSuchElementException", "java/lang/IllegalArgumentException"] : List String) by decide +kernel) E9 hE9, by rw [ht8, ← ht9]; exact hP9, va_K.moved hW8 hK, (by have hE8 := List.mem_singleton.mp hE9; rw [hE8]; exact ⟨fun _ => cd2_1 (by omega), fun h => absurd h (by decide +kernel)⟩)⟩, hS.F ht8⟩) hS.2.2 (Nat.le_of_ble_eq_true rfl) (Nat.le_of_ble_eq_true rfl)
  · refine lv_iload_n hx hb dX9_tokenOf_5 rfl (lv_at hl 1 rfl) ?_
    refine lv_aload_n hx hb dX9_tokenOf_6 rfl (lv_at hl 0 rfl) ?_
    refine fz_get (D := (dC, dI)) (ci := 9) (v := .ref (h0 + 1)) (C := RX9) (T := TX9) (N := 15) hx hb hts inG9 hown hK hP (k := 0) (by decide) (F := (sF0 h0)) sE_0 rfl 0 (by decide) (hts _ k332) (fun _ h9 => h9) rfl dX9_tokenOf_7 ?_
    refine fz_get (D := (dC, dI)) (ci := 5) (v := .int (iZ (μ 1 3))) (C := RX5) (T := TX5) (N := 8) hx hb hts inG5 hown hK hP (k := 1) (by decide) (F := (sF1 h0)) sE_1 rfl 3 (by decide) (hts _ k40) (fun _ h9 => h9) rfl dX9_tokenOf_10 ?_
    refine fz_icmp_ge (tgt := 20) (by first | assumption | (constructor <;> omega) | decide) (by first | assumption | (constructor <;> omega) | decide) hx hb dX9_tokenOf_13 (by decide) (fun c13_ => ?_) (fun c13_ => ?_)
    · refine lv_iconst (v := iZ 0) hx hb dX9_tokenOf_20 rfl ?_
      refine vx_callv (vx_runV (As := [.int (iZ (0))]) (rest := []) ⟨hx, hb, hml, hown, hts⟩ (x_needElement l hfl dC dI cI cZ cII cIII h0 s.heap.size μ  ) (cwV 1 hts (gV_G k739 k741 ks_yX9_needElement k1 k742) rfl rfl rfl (by decide +kernel) ⟨Nat.le_of_ble_eq_true rfl, Nat.le_of_ble_eq_true rfl⟩) ⟨fun a U g mk q => by obtain ⟨q0, q1, qP, qK, qM, qE⟩ := q; exact ⟨q0, q1, qP, va_K.moved (u := U) (U := U.calling g mk a) (Vm.Alike.refl U.vm) qK, qM, xX_call qE⟩, va_recv hK hP (ci := 9) (q0 := 0) rfl ((fw_get (by decide)).trans (by rw [sE_0]; rfl)), fun U hU hW => ⟨rfl, by rw [hU], by rw [hU]; exact hP, va_K.moved hW.alike hK, xM_warm hW hM, xX_at hEx hS (fun q h => fA_le hS.1 q h) hU hW⟩⟩ rfl rfl hl.1 rfl (lv_room (Nat.le_of_ble_eq_true rfl)) dX9_tokenOf_21 ⟨Nat.le_of_ble_eq_true rfl, Nat.le_of_ble_eq_true rfl⟩) hS (fun q _ h => fA_le hS.1 q h) (fA_le hS.1) (fun q _ h => fA_le hS.1 q h) (fun E9 ce9 q9 u9 t9 H1 locs ht9 hvm9 hpx9 hBX9 hz9 hk9 hS hce9 hcv9 hcl9 => ?_) (fun u9 t9 H1 locs ht9 hvm9 hw9 hB9 hz9 hk9 hS => hw9.elim)
      obtain ⟨hE9, hP9, hK9⟩ := hBX9
      exact vx_out (fun x hx9 => (hnt x hx9).elim) hlocks hce9 hcv9 hcl9 (fun t8 ht8 hW8 => ⟨u9, (by
                    show CI T u9 ∧ SZ μ u9
                    exact CZ_thr hI hpx9), ⟨(show ∀ z ∈ (["java/util/NoSuchElementException"] : List String), z ∈ (["java/util/NoSuchElementException", "java/lang/IllegalArgumentException"] : List String) by decide +kernel) E9 hE9, by rw [ht8, ← ht9]; exact hP9, va_K.moved hW8 hK, (by have hE8 := List.mem_singleton.mp hE9; rw [hE8]; exact ⟨fun _ => cd2_1 (by omega), fun h => absurd h (by decide +kernel)⟩)⟩, hS.F ht8⟩) hS.2.2 (Nat.le_of_ble_eq_true rfl) (Nat.le_of_ble_eq_true rfl)
    · refine lv_iconst (v := iZ 1) hx hb dX9_tokenOf_16 rfl ?_
      refine lv_goto (tgt := 21) hx hb dX9_tokenOf_17 (by decide) ?_
      refine va_callv (va_runV (As := [.int (iZ (1))]) (rest := []) ⟨hx, hb, hml, hown, hts⟩ (s_needElement l dC dI cI cZ cII cIII h0 s.heap.size μ  ) (cwV 1 hts (gV_G k739 k741 ks_yX9_needElement k1 k742) rfl rfl rfl (by decide +kernel) ⟨Nat.le_of_ble_eq_true rfl, Nat.le_of_ble_eq_true rfl⟩) ⟨fun a U g mk q => by obtain ⟨q0, q1, qP, qK, qM⟩ := q; exact ⟨q0, q1, qP, va_K.moved (u := U) (U := U.calling g mk a) (Vm.Alike.refl U.vm) qK, qM⟩, va_recv hK hP (ci := 9) (q0 := 0) rfl ((fw_get (by decide)).trans (by rw [sE_0]; rfl)), fun U hU hW => ⟨rfl, by rw [hU], by rw [hU]; exact hP, va_K.moved hW.alike hK, xM_warm hW hM⟩⟩ rfl rfl hl.1 rfl (lv_room (Nat.le_of_ble_eq_true rfl)) dX9_tokenOf_21 ⟨Nat.le_of_ble_eq_true rfl, Nat.le_of_ble_eq_true rfl⟩) hS (fun q _ h => fA_le hS.1 q h) (fA_le hS.1) (fun u9 t9 H1 locs ht9 hvm9 hw9 hB9 hz9 hk9 hS => ?_)
      obtain ⟨hP, -⟩ := hB9
      rw [ht9] at hP
      generalize H1 = H at hP hS ⊢
      obtain ⟨μ1, eμ1⟩ : ∃ x : va_M, x = u9 := ⟨_, rfl⟩
      rw [← eμ1] at hP hw9
      have hμ1 := hw9; clear hw9
      rw [hμ1] at hP
      refine lv_aload_n hx hb dX9_tokenOf_24 rfl (lv_at hl 0 rfl) ?_
      refine lv_iload_n hx hb dX9_tokenOf_25 rfl (lv_at hl 2 rfl) ?_
      refine fz_if_lt (tgt := 39) (by first | assumption | (constructor <;> omega) | decide) hx hb dX9_tokenOf_26 (by decide) (fun c26_ => ?_) (fun c26_ => ?_)
      · refine lv_iconst (v := iZ 0) hx hb dX9_tokenOf_39 rfl ?_
        refine vx_callv (vx_runV (As := [.int (iZ (0))]) (rest := []) ⟨hx, hb, hml, hown, hts⟩ (x_needArgument l hfl dC dI cI cZ cII cIII h0 H.size μ  ) (cwV 1 hts (gV_G k596 k598 ks_yX9_needArgument k1 k599) rfl rfl rfl (by decide +kernel) ⟨Nat.le_of_ble_eq_true rfl, Nat.le_of_ble_eq_true rfl⟩) ⟨fun a U g mk q => by obtain ⟨q0, q1, qP, qK, qM, qE⟩ := q; exact ⟨q0, q1, qP, va_K.moved (u := U) (U := U.calling g mk a) (Vm.Alike.refl U.vm) qK, qM, xX_call qE⟩, va_recv hK hP (ci := 9) (q0 := 0) rfl ((fw_get (by decide)).trans (by rw [sE_0]; rfl)), fun U hU hW => ⟨rfl, by rw [hU], by rw [hU]; exact hP, va_K.moved hW.alike hK, xM_warm hW hM, xX_at hEx hS (fun q h => fA_le hS.1 q h) hU hW⟩⟩ rfl rfl hl.1 rfl (lv_room (Nat.le_of_ble_eq_true rfl)) dX9_tokenOf_40 ⟨Nat.le_of_ble_eq_true rfl, Nat.le_of_ble_eq_true rfl⟩) hS (fun q _ h => fA_le hS.1 q h) (fA_le hS.1) (fun q _ h => fA_le hS.1 q h) (fun E9 ce9 q9 u9 t9 H1 locs ht9 hvm9 hpx9 hBX9 hz9 hk9 hS hce9 hcv9 hcl9 => ?_) (fun u9 t9 H1 locs ht9 hvm9 hw9 hB9 hz9 hk9 hS => hw9.elim)
        obtain ⟨hE9, hP9, hK9⟩ := hBX9
        exact vx_out (fun x hx9 => (hnt x hx9).elim) hlocks hce9 hcv9 hcl9 (fun t8 ht8 hW8 => ⟨u9, (by
                        show CI T u9 ∧ SZ μ u9
                        exact CZ_thr hI hpx9), ⟨(show ∀ z ∈ (["java/lang/IllegalArgumentException"] : List String), z ∈ (["java/util/NoSuchElementException", "java/lang/IllegalArgumentException"] : List String) by decide +kernel) E9 hE9, by rw [ht8, ← ht9]; exact hP9, va_K.moved hW8 hK, (by have hE8 := List.mem_singleton.mp hE9; rw [hE8]; exact ⟨fun h => absurd h (by decide +kernel), fun _ => cd2_2 (by omega) (by omega)⟩)⟩, hS.F ht8⟩) hS.2.2 (Nat.le_of_ble_eq_true rfl) (Nat.le_of_ble_eq_true rfl)
      · refine lv_iload_n hx hb dX9_tokenOf_29 rfl (lv_at hl 2 rfl) ?_
        refine lv_bipush (v := iZ 8) hx hb dX9_tokenOf_30 rfl ?_
        refine fz_icmp_gt (tgt := 39) (by first | assumption | (constructor <;> omega) | decide) (by decide) hx hb dX9_tokenOf_32 (by decide) (fun c32_ => ?_) (fun c32_ => ?_)
        · refine lv_iconst (v := iZ 0) hx hb dX9_tokenOf_39 rfl ?_
          refine vx_callv (vx_runV (As := [.int (iZ (0))]) (rest := []) ⟨hx, hb, hml, hown, hts⟩ (x_needArgument l hfl dC dI cI cZ cII cIII h0 H.size μ  ) (cwV 1 hts (gV_G k596 k598 ks_yX9_needArgument k1 k599) rfl rfl rfl (by decide +kernel) ⟨Nat.le_of_ble_eq_true rfl, Nat.le_of_ble_eq_true rfl⟩) ⟨fun a U g mk q => by obtain ⟨q0, q1, qP, qK, qM, qE⟩ := q; exact ⟨q0, q1, qP, va_K.moved (u := U) (U := U.calling g mk a) (Vm.Alike.refl U.vm) qK, qM, xX_call qE⟩, va_recv hK hP (ci := 9) (q0 := 0) rfl ((fw_get (by decide)).trans (by rw [sE_0]; rfl)), fun U hU hW => ⟨rfl, by rw [hU], by rw [hU]; exact hP, va_K.moved hW.alike hK, xM_warm hW hM, xX_at hEx hS (fun q h => fA_le hS.1 q h) hU hW⟩⟩ rfl rfl hl.1 rfl (lv_room (Nat.le_of_ble_eq_true rfl)) dX9_tokenOf_40 ⟨Nat.le_of_ble_eq_true rfl, Nat.le_of_ble_eq_true rfl⟩) hS (fun q _ h => fA_le hS.1 q h) (fA_le hS.1) (fun q _ h => fA_le hS.1 q h) (fun E9 ce9 q9 u9 t9 H1 locs ht9 hvm9 hpx9 hBX9 hz9 hk9 hS hce9 hcv9 hcl9 => ?_) (fun u9 t9 H1 locs ht9 hvm9 hw9 hB9 hz9 hk9 hS => hw9.elim)
          obtain ⟨hE9, hP9, hK9⟩ := hBX9
          exact vx_out (fun x hx9 => (hnt x hx9).elim) hlocks hce9 hcv9 hcl9 (fun t8 ht8 hW8 => ⟨u9, (by
                            show CI T u9 ∧ SZ μ u9
                            exact CZ_thr hI hpx9), ⟨(show ∀ z ∈ (["java/lang/IllegalArgumentException"] : List String), z ∈ (["java/util/NoSuchElementException", "java/lang/IllegalArgumentException"] : List String) by decide +kernel) E9 hE9, by rw [ht8, ← ht9]; exact hP9, va_K.moved hW8 hK, (by have hE8 := List.mem_singleton.mp hE9; rw [hE8]; exact ⟨fun h => absurd h (by decide +kernel), fun _ => cd2_2 (by omega) (by omega)⟩)⟩, hS.F ht8⟩) hS.2.2 (Nat.le_of_ble_eq_true rfl) (Nat.le_of_ble_eq_true rfl)
        · refine lv_iconst (v := iZ 1) hx hb dX9_tokenOf_35 rfl ?_
          refine lv_goto (tgt := 40) hx hb dX9_tokenOf_36 (by decide) ?_
          refine va_callv (va_runV (As := [.int (iZ (1))]) (rest := []) ⟨hx, hb, hml, hown, hts⟩ (s_needArgument l dC dI cI cZ cII cIII h0 H.size μ  ) (cwV 1 hts (gV_G k596 k598 ks_yX9_needArgument k1 k599) rfl rfl rfl (by decide +kernel) ⟨Nat.le_of_ble_eq_true rfl, Nat.le_of_ble_eq_true rfl⟩) ⟨fun a U g mk q => by obtain ⟨q0, q1, qP, qK, qM⟩ := q; exact ⟨q0, q1, qP, va_K.moved (u := U) (U := U.calling g mk a) (Vm.Alike.refl U.vm) qK, qM⟩, va_recv hK hP (ci := 9) (q0 := 0) rfl ((fw_get (by decide)).trans (by rw [sE_0]; rfl)), fun U hU hW => ⟨rfl, by rw [hU], by rw [hU]; exact hP, va_K.moved hW.alike hK, xM_warm hW hM⟩⟩ rfl rfl hl.1 rfl (lv_room (Nat.le_of_ble_eq_true rfl)) dX9_tokenOf_40 ⟨Nat.le_of_ble_eq_true rfl, Nat.le_of_ble_eq_true rfl⟩) hS (fun q _ h => fA_le hS.1 q h) (fA_le hS.1) (fun u9 t9 H1 locs ht9 hvm9 hw9 hB9 hz9 hk9 hS => ?_)
          obtain ⟨hP, -⟩ := hB9
          rw [ht9] at hP
          generalize H1 = H at hP hS ⊢
          obtain ⟨μ2, eμ2⟩ : ∃ x : va_M, x = u9 := ⟨_, rfl⟩
          rw [← eμ2] at hP hw9
          have hμ2 := hw9; clear hw9
          rw [hμ2] at hP
          have kb := key_b hI tk (by omega) (by omega)
          obtain ⟨te, e1_, e2_, e3_, e4_⟩ := tabC_in hI.1.1.1 (k := tk.toNat) (by omega)
          have hte9 := hV tk.toNat te e1_
          refine lv_iload_n hx hb dX9_tokenOf_43 rfl (lv_at hl 2 rfl) ?_
          by_cases hc44_0 : wh = 0
          · refine lv_lookup (tgt := 80) (off := 36) hx hb dX9_tokenOf_44 (by decide) (by rw [iZ_toInt (by first | assumption | (constructor <;> omega) | decide), hc44_0]; decide) (by decide) ?_
            refine lv_aload_n hx hb dX9_tokenOf_80 rfl (lv_at hl 0 rfl) ?_
            refine fz_get (D := (dC, dI)) (ci := 9) (v := .ref (h0 + 1)) (C := RX9) (T := TX9) (N := 15) hx hb hts inG9 hown hK hP (k := 0) (by decide) (F := (sF0 h0)) sE_0 rfl 0 (by decide) (hts _ k332) (fun _ h9 => h9) rfl dX9_tokenOf_81 ?_
            refine lv_iload_n hx hb dX9_tokenOf_84 rfl (lv_at hl 1 rfl) ?_
            refine va_calli (va_runV (As := [.int (iZ (tk))]) (rest := []) ⟨hx, hb, hml, hown, hts⟩ (s_XsortOf l dC dI cI cZ cII cIII h0 H.size μ (tk) (by first | assumption | omega | exact CI_lc hI | exact CI_cn hI | exact (CI_n6 hI).1 | decide) (by omega)) (cwV 1 hts (gV_G k889 k717 k718 k2 k719) rfl rfl rfl (by decide +kernel) ⟨Nat.le_of_ble_eq_true rfl, Nat.le_of_ble_eq_true rfl⟩) ⟨fun a U g mk q => by obtain ⟨q0, q1, qP, qK, qM⟩ := q; exact ⟨q0, q1, qP, va_K.moved (u := U) (U := U.calling g mk a) (Vm.Alike.refl U.vm) qK, qM⟩, va_recv hK hP (ci := 5) (q0 := 1) rfl ((fw_get (by decide)).trans (by rw [sE_1])), fun U hU hW => ⟨rfl, by rw [hU], by rw [hU]; exact hP, va_K.moved hW.alike hK, xM_warm hW hM⟩⟩ rfl rfl hl.1 rfl (lv_room (Nat.le_of_ble_eq_true rfl)) dX9_tokenOf_85 ⟨Nat.le_of_ble_eq_true rfl, Nat.le_of_ble_eq_true rfl⟩) hS (fun q _ h => fA_le hS.1 q h) (fA_le hS.1) (fun r9 u9 t9 H1 locs ht9 hvm9 hw9 hB9 hz9 hk9 hS => ?_)
            obtain ⟨μ3, r4⟩ := u9
            obtain ⟨hP, -⟩ := hB9
            rw [ht9] at hP
            generalize H1 = H at hP hS ⊢
            obtain ⟨e9, hw9⟩ := hw9
            have e9 : r9 = iZ r4 := e9
            subst e9
            simp only at hP hw9
            have hμ3 := hw9; clear hw9
            rw [hμ3.1] at hP; have hμ3 := hμ3.2
            exact W_widen (Nat.le_of_ble_eq_true rfl) (Nat.le_of_ble_eq_true rfl) (vx_ret (W.iret (v := iZ (r4)) hx hb hr (fun t9 ht9 hW9 => ⟨⟨iZ (r4), (μ, r4), rfl, ⟨rfl, (by
                                dsimp only
                                refine ⟨hI, SZ_rf, ⟨by omega, by omega⟩, ⟨by omega, by omega⟩, fun t9 ht9 => ?_⟩
                                cases e1_.symm.trans ht9
                                rw [tkA, if_pos (by omega)]; omega)⟩, by rw [ht9]; exact hP, va_K.moved hW9.alike hK⟩, hS.F ht9⟩) hS.2.2 dX9_tokenOf_88))
          · skip
            by_cases hc44_1 : wh = 1
            · refine lv_lookup (tgt := 89) (off := 45) hx hb dX9_tokenOf_44 (by decide) (by rw [iZ_toInt (by first | assumption | (constructor <;> omega) | decide), hc44_1]; decide) (by decide) ?_
              refine lv_aload_n hx hb dX9_tokenOf_89 rfl (lv_at hl 0 rfl) ?_
              refine fz_get (D := (dC, dI)) (ci := 9) (v := .ref (h0 + 1)) (C := RX9) (T := TX9) (N := 15) hx hb hts inG9 hown hK hP (k := 0) (by decide) (F := (sF0 h0)) sE_0 rfl 0 (by decide) (hts _ k332) (fun _ h9 => h9) rfl dX9_tokenOf_90 ?_
              refine lv_iload_n hx hb dX9_tokenOf_93 rfl (lv_at hl 1 rfl) ?_
              refine va_calli (va_runV (As := [.int (iZ (tk))]) (rest := []) ⟨hx, hb, hml, hown, hts⟩ (s_lettersOf2 l dC dI cI cZ cII cIII h0 H.size μ (tk) (te) (by first | assumption | omega | exact CI_lc hI | exact CI_cn hI | exact (CI_n6 hI).1 | decide) (by exact hte9) (by exact e2_) (by omega) (by exact e4_)) (cwV 1 hts (gV_G k890 k891 k892 k2 k893) rfl rfl rfl (by decide +kernel) ⟨Nat.le_of_ble_eq_true rfl, Nat.le_of_ble_eq_true rfl⟩) ⟨fun a U g mk q => by obtain ⟨q0, q1, qP, qK, qM⟩ := q; exact ⟨q0, q1, qP, va_K.moved (u := U) (U := U.calling g mk a) (Vm.Alike.refl U.vm) qK, qM⟩, va_recv hK hP (ci := 5) (q0 := 1) rfl ((fw_get (by decide)).trans (by rw [sE_1])), fun U hU hW => ⟨rfl, by rw [hU], by rw [hU]; exact hP, va_K.moved hW.alike hK, xM_warm hW hM⟩⟩ rfl rfl hl.1 rfl (lv_room (Nat.le_of_ble_eq_true rfl)) dX9_tokenOf_94 ⟨Nat.le_of_ble_eq_true rfl, Nat.le_of_ble_eq_true rfl⟩) hS (fun q _ h => fA_le hS.1 q h) (fA_le hS.1) (fun r9 u9 t9 H1 locs ht9 hvm9 hw9 hB9 hz9 hk9 hS => ?_)
              obtain ⟨μ5, r6⟩ := u9
              obtain ⟨hP, -⟩ := hB9
              rw [ht9] at hP
              generalize H1 = H at hP hS ⊢
              obtain ⟨e9, hw9⟩ := hw9
              have e9 : r9 = iZ r6 := e9
              subst e9
              simp only at hP hw9
              have hμ5 := hw9; clear hw9
              rw [hμ5.1] at hP; have hμ5 := hμ5.2
              exact W_widen (Nat.le_of_ble_eq_true rfl) (Nat.le_of_ble_eq_true rfl) (vx_ret (W.iret (v := iZ (r6)) hx hb hr (fun t9 ht9 hW9 => ⟨⟨iZ (r6), (μ, r6), rfl, ⟨rfl, (by
                                    dsimp only
                                    refine ⟨hI, SZ_rf, ⟨by omega, by omega⟩, ⟨by omega, by omega⟩, fun t9 ht9 => ?_⟩
                                    cases e1_.symm.trans ht9
                                    rw [tkA, if_neg (by omega), if_pos (by omega)]; first | assumption | exact hμ5)⟩, by rw [ht9]; exact hP, va_K.moved hW9.alike hK⟩, hS.F ht9⟩) hS.2.2 dX9_tokenOf_97))
            · skip
              by_cases hc44_8 : wh = 8
              · refine lv_lookup (tgt := 98) (off := 54) hx hb dX9_tokenOf_44 (by decide) (by rw [iZ_toInt (by first | assumption | (constructor <;> omega) | decide), hc44_8]; decide) (by decide) ?_
                refine lv_aload_n hx hb dX9_tokenOf_98 rfl (lv_at hl 0 rfl) ?_
                refine lv_iload_n hx hb dX9_tokenOf_99 rfl (lv_at hl 1 rfl) ?_
                refine va_calli (va_runV (As := [.int (iZ (tk))]) (rest := []) ⟨hx, hb, hml, hown, hts⟩ (s_pagesWith2 l dC dI cI cZ cII cIII h0 H.size μ (T) (tk) (by exact hI) (by first | assumption | omega | exact CI_lc hI | exact CI_cn hI | exact (CI_n6 hI).1 | decide)) (cwV 1 hts (gV_G k894 k896 ks_yX9_pagesWith k1 k897) rfl rfl rfl (by decide +kernel) ⟨Nat.le_of_ble_eq_true rfl, Nat.le_of_ble_eq_true rfl⟩) ⟨fun a U g mk q => by obtain ⟨q0, q1, qP, qK, qM⟩ := q; exact ⟨q0, q1, qP, va_K.moved (u := U) (U := U.calling g mk a) (Vm.Alike.refl U.vm) qK, qM⟩, va_recv hK hP (ci := 9) (q0 := 0) rfl ((fw_get (by decide)).trans (by rw [sE_0]; rfl)), fun U hU hW => ⟨rfl, by rw [hU], by rw [hU]; exact hP, va_K.moved hW.alike hK, xM_warm hW hM⟩⟩ rfl rfl hl.1 rfl (lv_room (Nat.le_of_ble_eq_true rfl)) dX9_tokenOf_100 ⟨Nat.le_of_ble_eq_true rfl, Nat.le_of_ble_eq_true rfl⟩) hS (fun q _ h => fA_le hS.1 q h) (fA_le hS.1) (fun r9 u9 t9 H1 locs ht9 hvm9 hw9 hB9 hz9 hk9 hS => ?_)
                obtain ⟨μ7, r8⟩ := u9
                obtain ⟨hP, -⟩ := hB9
                rw [ht9] at hP
                generalize H1 = H at hP hS ⊢
                obtain ⟨e9, hw9⟩ := hw9
                have e9 : r9 = iZ r8 := e9
                subst e9
                simp only at hP hw9
                have hμ7 := hw9; clear hw9
                rw [hμ7.1] at hP; have hμ7 := hμ7.2
                exact W_widen (Nat.le_of_ble_eq_true rfl) (Nat.le_of_ble_eq_true rfl) (vx_ret (W.iret (v := iZ (r8)) hx hb hr (fun t9 ht9 hW9 => ⟨⟨iZ (r8), (μ, r8), rfl, ⟨rfl, (by
                                        dsimp only
                                        refine ⟨hI, SZ_rf, ⟨by omega, by omega⟩, ⟨by omega, by omega⟩, fun t9 ht9 => ?_⟩
                                        cases e1_.symm.trans ht9
                                        rw [tkA, if_neg (by omega), if_neg (by omega), if_pos (by omega)]; first | assumption | exact hμ7)⟩, by rw [ht9]; exact hP, va_K.moved hW9.alike hK⟩, hS.F ht9⟩) hS.2.2 dX9_tokenOf_103))
              · skip
                refine lv_lookup (tgt := 104) (off := 60) hx hb dX9_tokenOf_44 (by decide) (by rw [iZ_toInt (by first | assumption | (constructor <;> omega) | decide)]; show (if (0 : Int) = wh then 36 else (if (1 : Int) = wh then 45 else (if (8 : Int) = wh then 54 else 60))) = _; rw [if_neg (by omega), if_neg (by omega), if_neg (by omega)]) (by decide) ?_
                refine lv_aload_n hx hb dX9_tokenOf_104 rfl (lv_at hl 0 rfl) ?_
                refine fz_get (D := (dC, dI)) (ci := 9) (v := .ref (h0 + 1)) (C := RX9) (T := TX9) (N := 15) hx hb hts inG9 hown hK hP (k := 0) (by decide) (F := (sF0 h0)) sE_0 rfl 0 (by decide) (hts _ k332) (fun _ h9 => h9) rfl dX9_tokenOf_105 ?_
                refine lv_iload_n hx hb dX9_tokenOf_108 rfl (lv_at hl 1 rfl) ?_
                refine lv_iload_n hx hb dX9_tokenOf_109 rfl (lv_at hl 2 rfl) ?_
                refine lv_iconst (v := iZ 2) hx hb dX9_tokenOf_110 rfl ?_
                refine lv_isub hx hb dX9_tokenOf_111 ?_
                refine lv_topi (fun x9 ex9 => ?_)
                obtain rfl : x9 = iZ (wh - 2) := ex9.trans (iZ_sub _ _)
                refine va_calli (va_runV (As := [.int (iZ (tk)), .int (iZ (wh - 2))]) (rest := []) ⟨hx, hb, hml, hown, hts⟩ (s_letterOf2 l dC dI cI cZ cII cIII h0 H.size μ (tk) (wh - 2) (te) (by first | assumption | omega | exact CI_lc hI | exact CI_cn hI | exact (CI_n6 hI).1 | decide) (by exact hte9) (by exact e2_) (by omega) (by exact e4_) (by first | assumption | omega | exact CI_lc hI | exact CI_cn hI | exact (CI_n6 hI).1 | decide)) (cwV 2 hts (gV_G k902 k903 k904 k2 k905) rfl rfl rfl (by decide +kernel) ⟨Nat.le_of_ble_eq_true rfl, Nat.le_of_ble_eq_true rfl⟩) ⟨fun a U g mk q => by obtain ⟨q0, q1, qP, qK, qM⟩ := q; exact ⟨q0, q1, qP, va_K.moved (u := U) (U := U.calling g mk a) (Vm.Alike.refl U.vm) qK, qM⟩, va_recv hK hP (ci := 5) (q0 := 1) rfl ((fw_get (by decide)).trans (by rw [sE_1])), fun U hU hW => ⟨rfl, by rw [hU], by rw [hU]; exact hP, va_K.moved hW.alike hK, xM_warm hW hM⟩⟩ rfl rfl hl.1 rfl (lv_room (Nat.le_of_ble_eq_true rfl)) dX9_tokenOf_112 ⟨Nat.le_of_ble_eq_true rfl, Nat.le_of_ble_eq_true rfl⟩) hS (fun q _ h => fA_le hS.1 q h) (fA_le hS.1) (fun r9 u9 t9 H1 locs ht9 hvm9 hw9 hB9 hz9 hk9 hS => ?_)
                obtain ⟨μ10, r11⟩ := u9
                obtain ⟨hP, -⟩ := hB9
                rw [ht9] at hP
                generalize H1 = H at hP hS ⊢
                obtain ⟨e9, hw9⟩ := hw9
                have e9 : r9 = iZ r11 := e9
                subst e9
                simp only at hP hw9
                have hμ10 := hw9; clear hw9
                rw [hμ10.1] at hP; have hμ10 := hμ10.2
                exact W_widen (Nat.le_of_ble_eq_true rfl) (Nat.le_of_ble_eq_true rfl) (vx_ret (W.iret (v := iZ (r11)) hx hb hr (fun t9 ht9 hW9 => ⟨⟨iZ (r11), (μ, r11), rfl, ⟨rfl, (by
                                        dsimp only
                                        refine ⟨hI, SZ_rf, ⟨by omega, by omega⟩, ⟨by omega, by omega⟩, fun t9 ht9 => ?_⟩
                                        cases e1_.symm.trans ht9
                                        rw [tkA, if_neg (by omega), if_neg (by omega), if_neg (by omega)]; first | assumption | exact hμ10)⟩, by rw [ht9]; exact hP, va_K.moved hW9.alike hK⟩, hS.F ht9⟩) hS.2.2 dX9_tokenOf_115))

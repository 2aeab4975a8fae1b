
/-! a skeleton tidied, told exactly -/
theorem tAl_app : ∀ {a b x y : Rw} {c d : Nat}, tAl a b c → tAl x y d → tAl (rapp a x) (rapp b y) (c + d)
  | .leaf, b, x, y, c, d, ⟨h1, h2⟩, h => by
    subst h1 h2
    rw [Nat.zero_add]
    exact h
  | .inner z k v l r, b, x, y, c, d, ⟨r2, n1, h1, h2⟩, h => by
    have i := tAl_app h1 h
    refine ⟨rapp r2 y, n1 + d, i, ?_⟩
    rcases h2 with ⟨a, e1, e2⟩ | ⟨a, lx, l2, n2, n3, e1, e2, e3, e4, e5⟩
    · exact Or.inl ⟨a, by rw [e1]; rfl, by omega⟩
    · exact Or.inr ⟨a, lx, l2, n2, n3, e1, e2, e3, by rw [e4]; rfl, by omega⟩
theorem tAl_m1 {m c : Nat} {w p : Rw} {z k : Nat} {v : Int} {l r : Rw} (h : tAl (rpre m w .leaf) p c) (hk : rdrop m w = .inner z k v l r) (h3 : k < 3) : tAl (rpre (m + 1) w .leaf) (rapp p (.inner 0 k v l .leaf)) c := by
  rw [rpre_S _ _ _ _ _ _ _ _ hk, ← rapp_pre m w (.inner z k v l .leaf)]
  exact tAl_app (d := 0) h ⟨.leaf, 0, ⟨rfl, rfl⟩, Or.inl ⟨h3, rfl, rfl⟩⟩
theorem tAl_m2 {m c c2 : Nat} {w p l2 : Rw} {z k : Nat} {v : Int} {l r : Rw} (h : tAl (rpre m w .leaf) p c) (hk : rdrop m w = .inner z k v l r) (h3 : 3 ≤ k) (h4 : tdy l l2 c2) : tAl (rpre (m + 1) w .leaf) (rapp p (.inner 0 k (-1) l2 .leaf)) (c + c2) := by
  obtain ⟨x, n1, n2, t1, t2, t3, t4⟩ := h4
  rw [rpre_S _ _ _ _ _ _ _ _ hk, ← rapp_pre m w (.inner z k v l .leaf)]
  exact tAl_app h ⟨.leaf, 0, ⟨rfl, rfl⟩, Or.inr ⟨h3, x, l2, n1, n2, t1, t2, t3, rfl, by omega⟩⟩
/-- what tidying keeps -/
theorem tAl_q : ∀ (w x : Rw) (n : Nat), rWF w → rAd w → tAl w x n → RTq w x
  | .leaf, x, n, _, _, ⟨h, _⟩ => by
    subst h
    trivial
  | .inner z k v l r, x, n, hw, hA, ⟨r2, n1, h1, h2⟩ => by
    have hr := tAl_q r r2 n1 hw.2.2.2.2.2.2.2 hA.2.2.2 h1
    rcases h2 with ⟨a, e1, e2⟩ | ⟨a, lx, l2, n2, n3, e1, e2, e3, e4, e5⟩
    · subst e1
      exact ⟨rfl, Or.inl ⟨a, rfl, rfl⟩, hr⟩
    · subst e4
      have hq := RTq_is (tAl_q l lx n2 hw.2.2.2.2.2.2.1 hA.2.2.1 e1)
      obtain ⟨t1, t2, _⟩ := hq.1 hw.2.2.2.2.2.2.1 hA.2.2.1
      exact ⟨rfl, Or.inr ⟨a, rfl, TQ_trans hq (tSt_TQ n3 lx l2 t1 t2 e2).1⟩, hr⟩
theorem tdy_TQ {w u : Rw} {n : Nat} (hw : rWF w) (hA : rAd w) (h : tdy w u n) : TQ w u := by
  obtain ⟨x, n1, n2, t1, t2, t3, t4⟩ := h
  have hq := RTq_is (tAl_q w x n1 hw hA t1)
  obtain ⟨s1, s2, _⟩ := hq.1 hw hA
  exact TQ_trans hq (tSt_TQ n2 x u s1 s2 t2).1
set_option maxHeartbeats 40000000 in
set_option maxRecDepth 100000 in
theorem LX10_tidies_93x {p : Program} {l : Launch} {e : Env} {R : Room} {s : State} {m : MethodId} {args : Array Value} {below : List Frame} {meth : Method} {c : Code} {cells slots : Nat} {Q : State → Prop} {dC : Nat → ClassId} {dI : Nat → Nat → Nat} {h0 : Nat} {cI cZ cII cIII : ClassId} {d9 : Nat} (hx : p.tables.exec = Jvm.exec) (hb : c.code = cX10_tidies) (hml : c.maxLocals = 9) (hown : s.vm.findClass RX10 = some m.cls) (hts : ∀ w ∈ wsG, w.before args s = true) (hK : va_K (dC, dI) vwCl (mT cI cZ cII cIII) s) (hRf : d9 + 30 + 1 ≤ R.frames) (hRl : 8 + (9 + 11) + (40 * d9 + 950) ≤ R.locals) (hRc : cells ≤ R.cells) (hRs : slots ≤ R.slots) (hrec : ∀ (sz : Nat) (μ : va_M) (a1 : Int) (a2 : Int) (n : Int) (w : Rw), (0 ≤ n ∧ n + rH w ≤ 16 ∧ n < 16) → (0 ≤ a1 ∧ a2 = a1 + rN w ∧ a2 ≤ 900) → (RA μ 0 w a1.toNat) → (OKr w) → (rH w < d9) → Met l yX10_tidies (Cond.code yX10_tidies cX10_tidies 9 none :: wsG) ({ frames := d9 + 30, cells := 0, slots := 0, locals := 40 * d9 + 950 } : Room) (va_Pc [.ref h0, .int (iZ (0)), .int (iZ (a1)), .int (iZ (a2)), .int (iZ (n))] (fun U => U.heap.size = sz ∧ va_P (dC, dI) vwCl (fw (mE cI cZ cII cIII h0) h0 6325 μ) U.heap ∧ va_K (dC, dI) vwCl (mT cI cZ cII cIII) U)) (va_Qv (fun (u : va_M) => (∃ (w2 : Rw) (c9 : Nat), TR u (54 + n).toNat w2 ∧ TDr w w2 ∧ tdy w w2 c9 ∧ u 0 38 = μ 0 38 + c9) ∧ fr (TC n.toNat) μ u ∧ μ 0 38 ≤ u 0 38 ∧ u 0 38 ≤ μ 0 38 + rN w) (fun u t => va_P (dC, dI) vwCl (fw (mE cI cZ cII cIII h0) h0 6325 u) t.heap ∧ va_K (dC, dI) vwCl (mT cI cZ cII cIII) t) (fA h0 6325 sz)) 0 0 (fA h0 6325 sz)) (μ0 : va_M) (a1 : Int) (a2 : Int) (n : Int) (i : Int) (y1 : Int) (w2 : Rw) (P0 : Nat) (hn : 0 ≤ n ∧ n < 15) (hT2 : TR μ0 ((54 + n) + 1).toNat w2) (hO2 : OKr w2) (hcap : P0 + rN w2 ≤ 900) (hexit139 : ∀ (k : Int) (jj : Nat) (μ : va_M) (H : Heap) (locs : List Loc) (ls : Array Slot), (fr (PG (54 + n).toNat P0) μ0 μ) → (μ 719 (54 + n).toNat = P0 + rN w2) → (RA μ (54 + n).toNat w2 P0) → va_P (dC, dI) vwCl (fw (mE cI cZ cII cIII h0) h0 6325 μ) H → va_S (fA h0 6325 s.heap.size) s.heap H locs → lv_has ls 9 [(7, .int (iZ (y1))), (6, .int (iZ (i))), (5, .int (iZ (54 + n))), (4, .int (iZ (n))), (3, .int (iZ (a2))), (2, .int (iZ (a1))), (1, .int (iZ (0))), (0, .ref h0)] → W p l e R s m args below meth c H locs cells slots Q (F0 m 139 ls [])) :
    ∀ (n9 : Nat) (k : Int) (jj : Nat) (μ : va_M) (H : Heap) (locs : List Loc) (ls : Array Slot), (k = rO w2 jj ∧ jj ≤ rI w2) → (fr (PG (54 + n).toNat P0) μ0 μ) → (μ 719 (54 + n).toNat = P0 + rO w2 jj) → (∀ (u8 : va_M) (x : Rw), agr μ u8 (54 + n).toNat P0 (P0 + rO w2 jj) → RA u8 (54 + n).toNat x (P0 + rO w2 jj) → RA u8 (54 + n).toNat (rpre jj w2 x) P0) → rI w2 - jj < n9 → va_P (dC, dI) vwCl (fw (mE cI cZ cII cIII h0) h0 6325 μ) H → va_S (fA h0 6325 s.heap.size) s.heap H locs → lv_has ls 9 [(8, .int (iZ (k))), (7, .int (iZ (y1))), (6, .int (iZ (i))), (5, .int (iZ (54 + n))), (4, .int (iZ (n))), (3, .int (iZ (a2))), (2, .int (iZ (a1))), (1, .int (iZ (0))), (0, .ref h0)] → W p l e R s m args below meth c H locs cells slots Q (F0 m 93 ls []) := by
  intro n9
  induction n9 with
  | zero => intro k jj μ H locs ls hk hfr hN5 hc hm9 hP hS hl; exact absurd hm9 (Nat.not_lt_zero _)
  | succ n9 ih =>
    intro k jj μ H locs ls hk hfr hN5 hc hm9 hP hS hl
    have hb2 := OKr_b hO2
    have hro := rdrop_N jj w2
    have htw : (54 + n).toNat = 54 + n.toNat := by omega
    have ht1 : ((54 + n) + 1).toNat = 55 + n.toNat := by omega
    refine lv_iload hx hb dX10_tidies_93 (lv_at hl 0 rfl) ?_
    refine lv_aload_n hx hb dX10_tidies_95 rfl (lv_at hl 8 rfl) ?_
    refine fz_get (D := (dC, dI)) (ci := 10) (v := .ref (h0 + 719)) (C := RX10) (T := TX10) (N := 53) hx hb hts inG10 hown hK hP (k := 0) (by decide) (F := mF h0) mE_obj rfl 21 (by decide) (hts _ k1187) (fun _ h9 => h9) rfl dX10_tidies_96 ?_
    refine lv_iload hx hb dX10_tidies_99 (lv_at hl 3 rfl) ?_
    refine lv_iconst (v := iZ 1) hx hb dX10_tidies_101 rfl ?_
    refine lv_iadd hx hb dX10_tidies_102 ?_
    refine lv_topi (fun x9 ex9 => ?_)
    obtain rfl : x9 = iZ ((54 + n) + 1) := ex9.trans (iZ_add _ _)
    refine fz_ld (k := 719) (n := 70) hx hb hK hP 0 (by decide) mE_nodes rfl ⟨by omega, by omega⟩ (by decide) dX10_tidies_103 ?_
    rw [show μ 719 ((54 + n) + 1).toNat = (rN w2 : Int) from (by rw [hfr _ _ (by unfold PG; omega)]; exact hT2.1)]
    refine fz_icmp_ge (tgt := 139) (by constructor <;> omega) (by constructor <;> omega) hx hb dX10_tidies_104 (by decide) (fun c104_ => ?_) (fun c104_ => ?_)
    · exact hexit139 (k) (jj) μ H locs ls (by exact hfr) (by
                    have hjj : jj = rI w2 := by
                      have h9 := (rO_end w2).1
                      by_cases h8 : jj = rI w2
                      · exact h8
                      · exfalso
                        obtain ⟨z5, k5, v5, l5, r5, e5⟩ := rI_pos (w := rdrop jj w2) (by rw [rdrop_I]; omega)
                        have h7 := rdrop_N jj w2
                        rw [e5, rN_in] at h7
                        omega
                    rw [hjj, (rO_end w2).1] at hN5
                    exact hN5) (by
                    have hjj : jj = rI w2 := by
                      have h9 := (rO_end w2).1
                      by_cases h8 : jj = rI w2
                      · exact h8
                      · exfalso
                        obtain ⟨z5, k5, v5, l5, r5, e5⟩ := rI_pos (w := rdrop jj w2) (by rw [rdrop_I]; omega)
                        have h7 := rdrop_N jj w2
                        rw [e5, rN_in] at h7
                        omega
                    have h6 := hc μ .leaf (fun _ _ _ => ⟨rfl, rfl, rfl⟩) trivial
                    rw [hjj, pre_all] at h6
                    exact h6) hP hS (lv_sub hl [1, 2, 3, 4, 5, 6, 7, 8] rfl)
    · have hjl : jj < rI w2 := rO_bl hk.2 (by omega)
      have hIx := rdrop_I jj w2
      have hNx := rdrop_N jj w2
      have hHx := rdrop_H jj w2
      have hWx := rdrop_WF jj w2 hO2.1
      have hRx := RA_drop jj w2 _ hT2.2
      obtain ⟨zx, kx, vx, lx, wx, hex⟩ := rI_pos (w := rdrop jj w2) (by omega)
      rw [hex] at hIx hNx hHx hWx hRx
      rw [rN_in] at hNx; rw [rI_in] at hIx; rw [rH_in] at hHx
      obtain ⟨rx1, rx2, rx3, rx4, _⟩ := hRx
      have hSx := rO_S _ _ _ _ _ _ _ hex
      rw [Nat.zero_add] at rx1 rx2 rx3 rx4
      have hRx : RA μ ((54 + n) + 1).toNat (Std.DTreeMap.Internal.Impl.inner zx kx vx lx .leaf) (rO w2 jj) := ⟨by rw [hfr _ _ (by unfold PG; omega)]; exact rx1, by rw [hfr _ _ (by unfold PG; omega)]; exact rx2, by rw [hfr _ _ (by unfold PG; omega)]; exact rx3, RA_fr rx4 hfr (fun x => by unfold PG; omega), trivial⟩
      refine lv_aload_n hx hb dX10_tidies_107 rfl (lv_at hl 8 rfl) ?_
      refine lv_iload hx hb dX10_tidies_108 (lv_at hl 3 rfl) ?_
      refine lv_iconst (v := iZ 1) hx hb dX10_tidies_110 rfl ?_
      refine lv_iadd hx hb dX10_tidies_111 ?_
      refine lv_topi (fun x9 ex9 => ?_)
      obtain rfl : x9 = iZ ((54 + n) + 1) := ex9.trans (iZ_add _ _)
      refine lv_iload hx hb dX10_tidies_112 (lv_at hl 0 rfl) ?_
      refine lv_iload hx hb dX10_tidies_114 (lv_at hl 3 rfl) ?_
      refine va_callv (va_runV (As := [.int (iZ ((54 + n) + 1)), .int (iZ (k)), .int (iZ (54 + n))]) (rest := []) ⟨hx, hb, hml, hown, hts⟩ (m_copies l dC dI cI cZ cII cIII h0 H.size μ ((54 + n) + 1) (k) (54 + n) (1 + (rN lx : Int)) (by omega) (by omega) (by omega) (by intro _; omega) (by intro _; omega) (by intro _; rw [show k.toNat = rO w2 jj by omega]; exact hRx.2.2.1)) (cwV 3 hts (gV_G k1412 k1414 ks_yX10_copies k13 k1415) rfl rfl rfl (by decide +kernel) ⟨by show 2 + 1 ≤ _; omega, by show 8 + (6 + 11) + (38) ≤ _; omega⟩) ⟨fun a U g mk q => by obtain ⟨q0, q1, qP, qK⟩ := q; exact ⟨q0, q1, qP, va_K.moved (u := U) (U := U.calling g mk a) (Vm.Alike.refl U.vm) qK⟩, va_recv hK hP (ci := 10) (q0 := 0) rfl ((fw_get (by decide)).trans (by rw [mE_obj]; rfl)), fun U hU hW => ⟨rfl, by rw [hU], by rw [hU]; exact hP, va_K.moved hW.alike hK⟩⟩ rfl rfl hl.1 rfl (lv_room (Nat.le_of_ble_eq_true rfl)) dX10_tidies_116 ⟨hRc, hRs⟩) hS (fun q _ h => fA_le hS.1 q h) (fA_le hS.1) (fun u9 t9 H1 locs ht9 hvm9 hw9 hB9 hz9 hk9 hS => ?_)
      obtain ⟨hP, -⟩ := hB9
      rw [ht9] at hP
      generalize H1 = H at hP hS ⊢
      obtain ⟨μx, eμx⟩ : ∃ x : va_M, x = u9 := ⟨_, rfl⟩
      rw [← eμx] at hP hw9
      have hμx := hw9; clear hw9
      obtain ⟨c1, c2, c3⟩ := hμx.2 (by omega)
      rw [show (μ 719 (54 + n).toNat).toNat = P0 + rO w2 jj by omega] at c1 c3
      have c3 : cpy μ μx ((54 + n) + 1).toNat (rO w2 jj) (54 + n).toNat (P0 + rO w2 jj) (1 + rN lx) := by have h9 := c3; rw [show k.toNat = rO w2 jj by omega, show (1 + (rN lx : Int)).toNat = 1 + rN lx by omega] at h9; exact h9
      refine lv_iload hx hb dX10_tidies_119 (lv_at hl 0 rfl) ?_
      refine lv_aload_n hx hb dX10_tidies_121 rfl (lv_at hl 8 rfl) ?_
      refine fz_get (D := (dC, dI)) (ci := 10) (v := .ref (h0 + 648)) (C := RX10) (T := TX10) (N := 53) hx hb hts inG10 hown hK hP (k := 0) (by decide) (F := mF h0) mE_obj rfl 20 (by decide) (hts _ k1186) (fun _ h9 => h9) rfl dX10_tidies_122 ?_
      refine lv_iload hx hb dX10_tidies_125 (lv_at hl 3 rfl) ?_
      refine lv_iconst (v := iZ 1) hx hb dX10_tidies_127 rfl ?_
      refine lv_iadd hx hb dX10_tidies_128 ?_
      refine lv_topi (fun x9 ex9 => ?_)
      obtain rfl : x9 = iZ ((54 + n) + 1) := ex9.trans (iZ_add _ _)
      refine fz_ald (k := 648) (n := 70) (k2 := (649 + ((54 + n) + 1).toNat)) hx hb hK hP 2 rfl (by decide) mE_span rfl ⟨by omega, by omega⟩ (by decide) (if_pos (by omega)) dX10_tidies_129 ?_
      refine lv_iload hx hb dX10_tidies_130 (lv_at hl 0 rfl) ?_
      refine fz_ld (k := (649 + ((54 + n) + 1).toNat)) (n := 900) hx hb hK hP 0 (by omega) (mE_spanR (by omega)) rfl ⟨by omega, by omega⟩ (by decide) dX10_tidies_132 ?_
      rw [show μx (649 + ((54 + n) + 1).toNat) (k).toNat = 1 + (rN lx : Int) from (by rw [c1 _ _ (by unfold PG; omega), show k.toNat = rO w2 jj by omega]; exact hRx.2.2.1)]
      refine lv_iadd hx hb dX10_tidies_133 ?_
      refine lv_topi (fun x9 ex9 => ?_)
      obtain rfl : x9 = iZ (k + (1 + (rN lx : Int))) := ex9.trans (iZ_add _ _)
      refine lv_istore (lv' := [(8, .int (iZ (k + (1 + (rN lx : Int))))), (7, .int (iZ (y1))), (6, .int (iZ (i))), (5, .int (iZ (54 + n))), (4, .int (iZ (n))), (3, .int (iZ (a2))), (2, .int (iZ (a1))), (1, .int (iZ (0))), (0, .ref h0)]) hx hb dX10_tidies_134 hl (by decide) rfl (fun ls hl => ?_)
      refine lv_goto (tgt := 93) hx hb dX10_tidies_136 (by decide) ?_
      exact ih (k + (1 + (rN lx : Int))) ((jj + 1)) μx H locs ls (by rw [hSx]; omega) (by exact fr_trans hfr (fr_mono c1 (fun x y h => by unfold PG at h ⊢; omega))) (by rw [hSx]; omega) (by
                    rw [hSx]
                    intro u8 x ha8 hx8
                    rw [rpre_S _ _ _ _ _ _ _ _ hex]
                    refine hc u8 _ (fun y hy1 hy2 => ?_) (cpy_RA hRx c3 (fun y hy1 hy2 => ha8 y (by omega) (by omega)) (by rw [show P0 + rO w2 jj + 1 + rN lx = P0 + (rO w2 jj + 1 + rN lx) by omega]; exact hx8))
                    have h7 := ha8 y (by omega) (by omega)
                    rw [h7.1, h7.2.1, h7.2.2]
                    exact ⟨c1 _ _ (by unfold PG; omega), c1 _ _ (by unfold PG; omega), c1 _ _ (by unfold PG; omega)⟩) (by omega) hP hS (lv_sub hl [0, 1, 2, 3, 4, 5, 6, 7, 8] rfl)
set_option maxHeartbeats 40000000 in
set_option maxRecDepth 100000 in
theorem LX10_tidies_16x {p : Program} {l : Launch} {e : Env} {R : Room} {s : State} {m : MethodId} {args : Array Value} {below : List Frame} {meth : Method} {c : Code} {cells slots : Nat} {Q : State → Prop} {dC : Nat → ClassId} {dI : Nat → Nat → Nat} {h0 : Nat} {cI cZ cII cIII : ClassId} {d9 : Nat} (hx : p.tables.exec = Jvm.exec) (hb : c.code = cX10_tidies) (hml : c.maxLocals = 9) (hown : s.vm.findClass RX10 = some m.cls) (hts : ∀ w ∈ wsG, w.before args s = true) (hK : va_K (dC, dI) vwCl (mT cI cZ cII cIII) s) (hRf : d9 + 30 + 1 ≤ R.frames) (hRl : 8 + (9 + 11) + (40 * d9 + 950) ≤ R.locals) (hRc : cells ≤ R.cells) (hRs : slots ≤ R.slots) (hrec : ∀ (sz : Nat) (μ : va_M) (a1 : Int) (a2 : Int) (n : Int) (w : Rw), (0 ≤ n ∧ n + rH w ≤ 16 ∧ n < 16) → (0 ≤ a1 ∧ a2 = a1 + rN w ∧ a2 ≤ 900) → (RA μ 0 w a1.toNat) → (OKr w) → (rH w < d9) → Met l yX10_tidies (Cond.code yX10_tidies cX10_tidies 9 none :: wsG) ({ frames := d9 + 30, cells := 0, slots := 0, locals := 40 * d9 + 950 } : Room) (va_Pc [.ref h0, .int (iZ (0)), .int (iZ (a1)), .int (iZ (a2)), .int (iZ (n))] (fun U => U.heap.size = sz ∧ va_P (dC, dI) vwCl (fw (mE cI cZ cII cIII h0) h0 6325 μ) U.heap ∧ va_K (dC, dI) vwCl (mT cI cZ cII cIII) U)) (va_Qv (fun (u : va_M) => (∃ (w2 : Rw) (c9 : Nat), TR u (54 + n).toNat w2 ∧ TDr w w2 ∧ tdy w w2 c9 ∧ u 0 38 = μ 0 38 + c9) ∧ fr (TC n.toNat) μ u ∧ μ 0 38 ≤ u 0 38 ∧ u 0 38 ≤ μ 0 38 + rN w) (fun u t => va_P (dC, dI) vwCl (fw (mE cI cZ cII cIII h0) h0 6325 u) t.heap ∧ va_K (dC, dI) vwCl (mT cI cZ cII cIII) t) (fA h0 6325 sz)) 0 0 (fA h0 6325 sz)) (μ0 : va_M) (a1 : Int) (a2 : Int) (n : Int) (w : Rw) (hn : 0 ≤ n ∧ n + rH w ≤ 16 ∧ n < 16) (ha : 0 ≤ a1 ∧ a2 = a1 + rN w ∧ a2 ≤ 900) (hR : RA μ0 0 w a1.toNat) (hO : OKr w) (hd : rH w < d9 + 1) (hexit164 : ∀ (i : Int) (mm : Nat) (pb : Rw) (μ : va_M) (H : Heap) (locs : List Loc) (ls : Array Slot), (RTd w pb) → (TR μ (54 + n).toNat pb) → (fr (TC n.toNat) μ0 μ) → (μ0 0 38 ≤ μ 0 38 ∧ μ 0 38 + rI w ≤ μ0 0 38 + rN w) → (∃ c9 : Nat, tAl w pb c9 ∧ μ 0 38 = μ0 0 38 + c9) → va_P (dC, dI) vwCl (fw (mE cI cZ cII cIII h0) h0 6325 μ) H → va_S (fA h0 6325 s.heap.size) s.heap H locs → lv_has ls 9 [(5, .int (iZ (54 + n))), (4, .int (iZ (n))), (3, .int (iZ (a2))), (2, .int (iZ (a1))), (1, .int (iZ (0))), (0, .ref h0)] → W p l e R s m args below meth c H locs cells slots Q (F0 m 164 ls [])) :
    ∀ (n9 : Nat) (i : Int) (mm : Nat) (pb : Rw) (μ : va_M) (H : Heap) (locs : List Loc) (ls : Array Slot), (i = a1 + rO w mm ∧ mm ≤ rI w) → (RTd (rpre mm w .leaf) pb) → (TR μ (54 + n).toNat pb) → (fr (TC n.toNat) μ0 μ) → (μ0 0 38 ≤ μ 0 38 ∧ μ 0 38 + mm ≤ μ0 0 38 + rO w mm) → (∃ c9 : Nat, tAl (rpre mm w .leaf) pb c9 ∧ μ 0 38 = μ0 0 38 + c9) → rI w - mm < n9 → va_P (dC, dI) vwCl (fw (mE cI cZ cII cIII h0) h0 6325 μ) H → va_S (fA h0 6325 s.heap.size) s.heap H locs → lv_has ls 9 [(6, .int (iZ (i))), (5, .int (iZ (54 + n))), (4, .int (iZ (n))), (3, .int (iZ (a2))), (2, .int (iZ (a1))), (1, .int (iZ (0))), (0, .ref h0)] → W p l e R s m args below meth c H locs cells slots Q (F0 m 16 ls []) := by
  intro n9
  induction n9 with
  | zero => intro i mm pb μ H locs ls hi hp hT hf hz hx9 hm9 hP hS hl; exact absurd hm9 (Nat.not_lt_zero _)
  | succ n9 ih =>
    intro i mm pb μ H locs ls hi hp hT hf hz hx9 hm9 hP hS hl
    have hbw := OKr_b hO
    have hro := rdrop_N mm w
    have htw : (54 + n).toNat = 54 + n.toNat := by omega
    have hcell : ∀ x, μ (507 + 0) x = μ0 (507 + 0) x ∧ μ (578 + 0) x = μ0 (578 + 0) x ∧ μ (649 + 0) x = μ0 (649 + 0) x := fun x => ⟨hf _ _ (TC_0 (by omega) (by omega)), hf _ _ (by unfold TC P8 PT; omega), hf _ _ (by unfold TC P8 PT; omega)⟩
    refine lv_iload hx hb dX10_tidies_16 (lv_at hl 0 rfl) ?_
    refine lv_iload_n hx hb dX10_tidies_18 rfl (lv_at hl 3 rfl) ?_
    refine fz_icmp_ge (tgt := 164) (by constructor <;> omega) (by constructor <;> omega) hx hb dX10_tidies_19 (by decide) (fun c19_ => ?_) (fun c19_ => ?_)
    · exact hexit164 (i) (mm) (pb) μ H locs ls (by
                    have hjj : mm = rI w := by
                      by_cases h8 : mm = rI w
                      · exact h8
                      · exfalso
                        obtain ⟨z5, k5, v5, l5, r5, e5⟩ := rI_pos (w := rdrop mm w) (by rw [rdrop_I]; omega)
                        have h7 := rdrop_N mm w
                        rw [e5, rN_in] at h7
                        omega
                    rw [hjj, pre_all] at hp
                    exact hp) (by exact hT) (by exact hf) (by
                    have hjj : mm = rI w := by
                      by_cases h8 : mm = rI w
                      · exact h8
                      · exfalso
                        obtain ⟨z5, k5, v5, l5, r5, e5⟩ := rI_pos (w := rdrop mm w) (by rw [rdrop_I]; omega)
                        have h7 := rdrop_N mm w
                        rw [e5, rN_in] at h7
                        omega
                    rw [hjj, (rO_end w).1] at hz
                    exact hz) (by
                    have hjj : mm = rI w := by
                      by_cases h8 : mm = rI w
                      · exact h8
                      · exfalso
                        obtain ⟨z5, k5, v5, l5, r5, e5⟩ := rI_pos (w := rdrop mm w) (by rw [rdrop_I]; omega)
                        have h7 := rdrop_N mm w
                        rw [e5, rN_in] at h7
                        omega
                    rw [hjj, pre_all] at hx9
                    exact hx9) hP hS (lv_sub hl [1, 2, 3, 4, 5, 6] rfl)
    · have hmm : mm < rI w := rO_bl hi.2 (by omega)
      have hIx := rdrop_I mm w
      have hNx := rdrop_N mm w
      have hHx := rdrop_H mm w
      have hWx := rdrop_WF mm w hO.1
      have hRx := RA_drop mm w _ hR
      obtain ⟨zx, kx, vx, lx, wx, hex⟩ := rI_pos (w := rdrop mm w) (by omega)
      rw [hex] at hIx hNx hHx hWx hRx
      rw [rN_in] at hNx; rw [rI_in] at hIx; rw [rH_in] at hHx
      obtain ⟨rx1, rx2, rx3, rx4, _⟩ := hRx
      have hSx := rO_S _ _ _ _ _ _ _ hex
      have hia : i.toNat = a1.toNat + rO w mm := by omega
      have hRx : RA μ 0 (Std.DTreeMap.Internal.Impl.inner zx kx vx lx .leaf) i.toNat := by
        rw [hia]
        exact ⟨by rw [(hcell _).1]; exact rx1, by rw [(hcell _).2.1]; exact rx2, by rw [(hcell _).2.2]; exact rx3, RA_kept rx4 (fun x _ _ => hcell x), trivial⟩
      have hbp := OKr_b (OKr_RT hO hi.2 hp)
      have hk4 := hWx.1
      have hnT : μ 719 (54 + n).toNat = rN pb := hT.1
      refine lv_aload_n hx hb dX10_tidies_22 rfl (lv_at hl 6 rfl) ?_
      refine fz_get (D := (dC, dI)) (ci := 10) (v := .ref (h0 + 506)) (C := RX10) (T := TX10) (N := 53) hx hb hts inG10 hown hK hP (k := 0) (by decide) (F := mF h0) mE_obj rfl 18 (by decide) (hts _ k1184) (fun _ h9 => h9) rfl dX10_tidies_23 ?_
      refine lv_iload_n hx hb dX10_tidies_26 rfl (lv_at hl 5 rfl) ?_
      refine fz_ald (k := 506) (n := 70) (k2 := (507 + 0)) hx hb hK hP 2 rfl (by decide) mE_sort rfl ⟨by omega, by omega⟩ (by decide) (if_pos (by omega)) dX10_tidies_27 ?_
      refine lv_iload hx hb dX10_tidies_28 (lv_at hl 0 rfl) ?_
      refine fz_ld (k := (507 + 0)) (n := 900) hx hb hK hP 0 (by omega) (mE_sortR (by omega)) rfl ⟨by omega, by omega⟩ (by decide) dX10_tidies_30 ?_
      rw [show μ (507 + 0) (i).toNat = (kx : Int) from (by exact hRx.1)]
      refine lv_iconst (v := iZ 3) hx hb dX10_tidies_31 rfl ?_
      refine fz_icmp_ge (tgt := 47) (by constructor <;> omega) (by decide) hx hb dX10_tidies_32 (by decide) (fun c32_ => ?_) (fun c32_ => ?_)
      · have hlne := hWx.2.2.1 (by omega)
        have hl1 := rH_0 hlne
        refine lv_aload_n hx hb dX10_tidies_47 rfl (lv_at hl 6 rfl) ?_
        refine lv_iload_n hx hb dX10_tidies_48 rfl (lv_at hl 5 rfl) ?_
        refine lv_iload hx hb dX10_tidies_49 (lv_at hl 0 rfl) ?_
        refine lv_iconst (v := iZ 1) hx hb dX10_tidies_51 rfl ?_
        refine lv_iadd hx hb dX10_tidies_52 ?_
        refine lv_topi (fun x9 ex9 => ?_)
        obtain rfl : x9 = iZ (i + 1) := ex9.trans (iZ_add _ _)
        refine lv_iload hx hb dX10_tidies_53 (lv_at hl 0 rfl) ?_
        refine lv_aload_n hx hb dX10_tidies_55 rfl (lv_at hl 6 rfl) ?_
        refine fz_get (D := (dC, dI)) (ci := 10) (v := .ref (h0 + 648)) (C := RX10) (T := TX10) (N := 53) hx hb hts inG10 hown hK hP (k := 0) (by decide) (F := mF h0) mE_obj rfl 20 (by decide) (hts _ k1186) (fun _ h9 => h9) rfl dX10_tidies_56 ?_
        refine lv_iload_n hx hb dX10_tidies_59 rfl (lv_at hl 5 rfl) ?_
        refine fz_ald (k := 648) (n := 70) (k2 := (649 + 0)) hx hb hK hP 2 rfl (by decide) mE_span rfl ⟨by omega, by omega⟩ (by decide) (if_pos (by omega)) dX10_tidies_60 ?_
        refine lv_iload hx hb dX10_tidies_61 (lv_at hl 0 rfl) ?_
        refine fz_ld (k := (649 + 0)) (n := 900) hx hb hK hP 0 (by omega) (mE_spanR (by omega)) rfl ⟨by omega, by omega⟩ (by decide) dX10_tidies_63 ?_
        rw [show μ (649 + 0) (i).toNat = 1 + (rN lx : Int) from (by exact hRx.2.2.1)]
        refine lv_iadd hx hb dX10_tidies_64 ?_
        refine lv_topi (fun x9 ex9 => ?_)
        obtain rfl : x9 = iZ (i + (1 + (rN lx : Int))) := ex9.trans (iZ_add _ _)
        refine lv_iload hx hb dX10_tidies_65 (lv_at hl 2 rfl) ?_
        refine lv_iconst (v := iZ 1) hx hb dX10_tidies_67 rfl ?_
        refine lv_iadd hx hb dX10_tidies_68 ?_
        refine lv_topi (fun x9 ex9 => ?_)
        obtain rfl : x9 = iZ (n + 1) := ex9.trans (iZ_add _ _)
        refine va_callv (va_runV (As := [.int (iZ (0)), .int (iZ (i + 1)), .int (iZ (i + (1 + (rN lx : Int)))), .int (iZ (n + 1))]) (rest := []) ⟨hx, hb, hml, hown, hts⟩ (hrec H.size μ (i + 1) (i + (1 + (rN lx : Int))) (n + 1) (lx) (by omega) (by omega) (by rw [show (i + 1).toNat = i.toNat + 1 by omega]; exact hRx.2.2.2.1) (by exact (OKr_in (z := zx) (v := vx) (r := wx) (by rw [← hex]; exact OKr_drop hO mm)).2 (by omega)) (by omega)) (cwV 4 hts (gV_G k1440 k1442 ks_yX10_tidies k13 k1443) rfl rfl rfl (by decide +kernel) ⟨by show d9 + 30 + 1 ≤ _; omega, by show 8 + (9 + 11) + (40 * d9 + 950) ≤ _; omega⟩) ⟨fun a U g mk q => by obtain ⟨q0, q1, qP, qK⟩ := q; exact ⟨q0, q1, qP, va_K.moved (u := U) (U := U.calling g mk a) (Vm.Alike.refl U.vm) qK⟩, va_recv hK hP (ci := 10) (q0 := 0) rfl ((fw_get (by decide)).trans (by rw [mE_obj]; rfl)), fun U hU hW => ⟨rfl, by rw [hU], by rw [hU]; exact hP, va_K.moved hW.alike hK⟩⟩ rfl rfl hl.1 rfl (lv_room (Nat.le_of_ble_eq_true rfl)) dX10_tidies_69 ⟨hRc, hRs⟩) hS (fun q _ h => fA_le hS.1 q h) (fA_le hS.1) (fun u9 t9 H1 locs ht9 hvm9 hw9 hB9 hz9 hk9 hS => ?_)
        obtain ⟨hP, -⟩ := hB9
        rw [ht9] at hP
        generalize H1 = H at hP hS ⊢
        obtain ⟨μt, eμt⟩ : ∃ x : va_M, x = u9 := ⟨_, rfl⟩
        rw [← eμt] at hP hw9
        have hμt := hw9; clear hw9
        obtain ⟨⟨w2, c8, y1_, y2_, y8_, y9_⟩, y3_, y4_, y5_⟩ := hμt
        have hOl : OKr lx := (OKr_in (z := zx) (v := vx) (r := wx) (by rw [← hex]; exact OKr_drop hO mm)).2 (by omega)
        have hOw2 : OKr w2 := OKr_TD y2_ hOl
        have hb2 := OKr_b hOw2
        have en1 : (n + 1).toNat = n.toNat + 1 := by omega
        have et1 : (54 + (n + 1)).toNat = ((54 + n) + 1).toNat := by omega
        have et2 : ((54 + n) + 1).toNat = 55 + n.toNat := by omega
        rw [en1] at y3_
        rw [et1] at y1_
        have hmore := RTd_more (z2 := 0) hp hex (Or.inr ⟨by omega, rfl, y2_⟩)
        have hbm := OKr_b (OKr_RT hO (m := mm + 1) (by omega) hmore)
        rw [rapp_N] at hbm
        have hN1 : rN (Std.DTreeMap.Internal.Impl.inner 0 kx (-1) w2 .leaf : Rw) = 1 + rN w2 := by rw [rN_in]; rfl
        have hTt : TR μt (54 + n).toNat pb := TR_fr hT y3_ (fun x => by unfold TC P8 PT; omega) (by unfold TC P8 PT; omega)
        have hnt : μt 719 (54 + n).toNat = rN pb := hTt.1
        have hkt : μt (507 + 0) i.toNat = kx := by rw [y3_ _ _ (TC_0 (by omega) (by omega))]; exact hRx.1
        have hst : μt (649 + 0) i.toNat = 1 + (rN lx : Int) := by rw [y3_ _ _ (by unfold TC P8 PT; omega)]; exact hRx.2.2.1
        refine lv_aload_n hx hb dX10_tidies_72 rfl (lv_at hl 6 rfl) ?_
        refine lv_iload hx hb dX10_tidies_73 (lv_at hl 1 rfl) ?_
        refine lv_aload_n hx hb dX10_tidies_75 rfl (lv_at hl 6 rfl) ?_
        refine fz_get (D := (dC, dI)) (ci := 10) (v := .ref (h0 + 506)) (C := RX10) (T := TX10) (N := 53) hx hb hts inG10 hown hK hP (k := 0) (by decide) (F := mF h0) mE_obj rfl 18 (by decide) (hts _ k1184) (fun _ h9 => h9) rfl dX10_tidies_76 ?_
        refine lv_iload_n hx hb dX10_tidies_79 rfl (lv_at hl 5 rfl) ?_
        refine fz_ald (k := 506) (n := 70) (k2 := (507 + 0)) hx hb hK hP 2 rfl (by decide) mE_sort rfl ⟨by omega, by omega⟩ (by decide) (if_pos (by omega)) dX10_tidies_80 ?_
        refine lv_iload hx hb dX10_tidies_81 (lv_at hl 0 rfl) ?_
        refine fz_ld (k := (507 + 0)) (n := 900) hx hb hK hP 0 (by omega) (mE_sortR (by omega)) rfl ⟨by omega, by omega⟩ (by decide) dX10_tidies_83 ?_
        rw [show μt (507 + 0) (i).toNat = (kx : Int) from (by exact hkt)]
        refine lv_iconst (v := iZ (-1)) hx hb dX10_tidies_84 rfl ?_
        refine va_calli (va_runV (As := [.int (iZ (54 + n)), .int (iZ ((kx : Int))), .int (iZ ((-1)))]) (rest := []) ⟨hx, hb, hml, hown, hts⟩ (m_adds l dC dI cI cZ cII cIII h0 H.size μt (54 + n) ((kx : Int)) ((-1)) (by omega) (by intro _; omega)) (cwV 3 hts (gV_G k1377 k1379 ks_yX10_adds k13 k1380) rfl rfl rfl (by decide +kernel) ⟨by show 1 + 1 ≤ _; omega, by show 8 + (5 + 11) + (14) ≤ _; omega⟩) ⟨fun a U g mk q => by obtain ⟨q0, q1, qP, qK⟩ := q; exact ⟨q0, q1, qP, va_K.moved (u := U) (U := U.calling g mk a) (Vm.Alike.refl U.vm) qK⟩, va_recv hK hP (ci := 10) (q0 := 0) rfl ((fw_get (by decide)).trans (by rw [mE_obj]; rfl)), fun U hU hW => ⟨rfl, by rw [hU], by rw [hU]; exact hP, va_K.moved hW.alike hK⟩⟩ rfl rfl hl.1 rfl (lv_room (Nat.le_of_ble_eq_true rfl)) dX10_tidies_85 ⟨hRc, hRs⟩) hS (fun q _ h => fA_le hS.1 q h) (fA_le hS.1) (fun r9 u9 t9 H1 locs ht9 hvm9 hw9 hB9 hz9 hk9 hS => ?_)
        obtain ⟨μa, ya⟩ := u9
        obtain ⟨hP, -⟩ := hB9
        rw [ht9] at hP
        generalize H1 = H at hP hS ⊢
        obtain ⟨e9, hw9⟩ := hw9
        have e9 : r9 = iZ ya := e9
        subst e9
        simp only at hP hw9
        have hμa := hw9; clear hw9
        obtain ⟨e1_, e2_⟩ := hμa.2 (by omega)
        rw [show (μt 719 (54 + n).toNat).toNat = rN pb by omega] at e1_
        have fa : fr (PG (54 + n).toNat (rN pb)) μt μa := by rw [e1_]; exact fr_uz (fr_uz (fr_uz (fr_uz fr_rfl (by unfold PG; omega)) (by unfold PG; omega)) (by unfold PG; omega)) (by unfold PG; omega)
        have hna : μa 719 (54 + n).toNat = rN pb + 1 := by rw [e1_, uz_s]; omega
        refine lv_istore (lv' := [(7, .int (iZ (ya))), (6, .int (iZ (i))), (5, .int (iZ (54 + n))), (4, .int (iZ (n))), (3, .int (iZ (a2))), (2, .int (iZ (a1))), (1, .int (iZ (0))), (0, .ref h0)]) hx hb dX10_tidies_88 hl (by decide) rfl (fun ls hl => ?_)
        refine lv_iconst (v := iZ 0) hx hb dX10_tidies_90 rfl ?_
        refine lv_istore (lv' := [(8, .int (iZ (0))), (7, .int (iZ (ya))), (6, .int (iZ (i))), (5, .int (iZ (54 + n))), (4, .int (iZ (n))), (3, .int (iZ (a2))), (2, .int (iZ (a1))), (1, .int (iZ (0))), (0, .ref h0)]) hx hb dX10_tidies_91 hl (by decide) rfl (fun ls hl => ?_)
        refine LX10_tidies_93x hx hb hml hown hts hK hRf hRl hRc hRs hrec (μa) (a1) (a2) (n) (i) (ya) (w2) (rN pb + 1) (by omega) (by exact TR_fr y1_ fa (fun x => by unfold PG; omega) (by unfold PG; omega)) (by exact hOw2) (by omega) ?_ _ (0) (0) μa H locs ls (by
                        have h9 : rO w2 0 = 0 := by cases w2 <;> rfl
                        rw [h9]; omega) (by exact fr_rfl) (by
                        have h9 : rO w2 0 = 0 := by cases w2 <;> rfl
                        rw [h9]; omega) (by
                        have h9 : rO w2 0 = 0 := by cases w2 <;> rfl
                        rw [h9]
                        intro u8 x _ hx8
                        exact hx8) (Nat.lt_succ_self _) hP hS (lv_sub hl [0, 1, 2, 3, 4, 5, 6, 7, 8] rfl)
        · intro k_1 jj_1 μ1_ H locs ls q1_1 q2_1 q3_1 hP hS hl
          have hl : lv_has ls 9 [(7, .int (iZ (ya))), (6, .int (iZ (i))), (5, .int (iZ (54 + n))), (4, .int (iZ (n))), (3, .int (iZ (a2))), (2, .int (iZ (a1))), (1, .int (iZ (0))), (0, .ref h0)] := hl
          have p1_ := q1_1
          have p2_ := q2_1
          have p3_ := q3_1
          refine lv_aload_n hx hb dX10_tidies_139 rfl (lv_at hl 7 rfl) ?_
          refine lv_iload hx hb dX10_tidies_140 (lv_at hl 2 rfl) ?_
          refine lv_iload hx hb dX10_tidies_142 (lv_at hl 0 rfl) ?_
          refine va_callv (va_runV (As := [.int (iZ (54 + n)), .int (iZ (ya))]) (rest := []) ⟨hx, hb, hml, hown, hts⟩ (m_closes l dC dI cI cZ cII cIII h0 H.size μ1_ (54 + n) (ya) (by omega) (by intro _; omega)) (cwV 2 hts (gV_G k1420 k1422 ks_yX10_closes k13 k1423) rfl rfl rfl (by decide +kernel) ⟨by show 1 + 1 ≤ _; omega, by show 8 + (3 + 11) + (14) ≤ _; omega⟩) ⟨fun a U g mk q => by obtain ⟨q0, q1, qP, qK⟩ := q; exact ⟨q0, q1, qP, va_K.moved (u := U) (U := U.calling g mk a) (Vm.Alike.refl U.vm) qK⟩, va_recv hK hP (ci := 10) (q0 := 0) rfl ((fw_get (by decide)).trans (by rw [mE_obj]; rfl)), fun U hU hW => ⟨rfl, by rw [hU], by rw [hU]; exact hP, va_K.moved hW.alike hK⟩⟩ rfl rfl hl.1 rfl (lv_room (Nat.le_of_ble_eq_true rfl)) dX10_tidies_144 ⟨hRc, hRs⟩) hS (fun q _ h => fA_le hS.1 q h) (fA_le hS.1) (fun u9 t9 H1 locs ht9 hvm9 hw9 hB9 hz9 hk9 hS => ?_)
          obtain ⟨hP, -⟩ := hB9
          rw [ht9] at hP
          generalize H1 = H at hP hS ⊢
          obtain ⟨μz, eμz⟩ : ∃ x : va_M, x = u9 := ⟨_, rfl⟩
          rw [← eμz] at hP hw9
          have hμz := hw9; clear hw9
          have e5_ := hμz.2 (by omega)
          rw [show ya.toNat = rN pb by omega] at e5_
          have c1 : fr (PG (54 + n).toNat (rN pb)) μt μz := by rw [e5_]; exact fr_uz (fr_trans fa (fr_mono p1_ (fun x y h => by unfold PG at h ⊢; omega))) (by unfold PG; omega)
          have hTm : TR μz (54 + n).toNat (rapp pb (Std.DTreeMap.Internal.Impl.inner 0 kx (-1) w2 .leaf)) := TR_more hTt c1 (by rw [hN1, e5_, uz_n (by omega)]; omega) ⟨by rw [e5_, uz_n (by omega), p1_ _ _ (by unfold PG; omega), e1_, uz_n (by omega), uz_n (by omega), uz_n (by omega), uz_s], by rw [e5_, uz_n (by omega), p1_ _ _ (by unfold PG; omega), e1_, uz_n (by omega), uz_n (by omega), uz_s], by rw [e5_, uz_s]; omega, by
              rw [e5_]
              exact RA_kept p3_ (fun y hy1 hy2 => ⟨uz_n (by omega), uz_n (by omega), uz_n (by omega)⟩), trivial⟩ (by omega)
          have hfm : fr (TC n.toNat) μ0 μz := fr_trans (fr_trans hf (fr_mono y3_ (fun x y h => TC_up h))) (fr_mono c1 (fun x y h => TC_PG htw (by omega) h))
          have hzm : μz 0 38 = μt 0 38 := c1 _ _ (by unfold PG; omega)
          have hspan : μz (649 + 0) i.toNat = 1 + (rN lx : Int) := by rw [c1 _ _ (by unfold PG; omega)]; exact hst
          refine lv_iload hx hb dX10_tidies_147 (lv_at hl 1 rfl) ?_
          refine lv_aload_n hx hb dX10_tidies_149 rfl (lv_at hl 7 rfl) ?_
          refine fz_get (D := (dC, dI)) (ci := 10) (v := .ref (h0 + 648)) (C := RX10) (T := TX10) (N := 53) hx hb hts inG10 hown hK hP (k := 0) (by decide) (F := mF h0) mE_obj rfl 20 (by decide) (hts _ k1186) (fun _ h9 => h9) rfl dX10_tidies_150 ?_
          refine lv_iload_n hx hb dX10_tidies_153 rfl (lv_at hl 6 rfl) ?_
          refine fz_ald (k := 648) (n := 70) (k2 := (649 + 0)) hx hb hK hP 2 rfl (by decide) mE_span rfl ⟨by omega, by omega⟩ (by decide) (if_pos (by omega)) dX10_tidies_154 ?_
          refine lv_iload hx hb dX10_tidies_155 (lv_at hl 1 rfl) ?_
          refine fz_ld (k := (649 + 0)) (n := 900) hx hb hK hP 0 (by omega) (mE_spanR (by omega)) rfl ⟨by omega, by omega⟩ (by decide) dX10_tidies_157 ?_
          rw [show μz (649 + 0) (i).toNat = 1 + (rN lx : Int) from (by exact hspan)]
          refine lv_iadd hx hb dX10_tidies_158 ?_
          refine lv_topi (fun x9 ex9 => ?_)
          obtain rfl : x9 = iZ (i + (1 + (rN lx : Int))) := ex9.trans (iZ_add _ _)
          refine lv_istore (lv' := [(6, .int (iZ (i + (1 + (rN lx : Int))))), (7, .int (iZ (ya))), (5, .int (iZ (54 + n))), (4, .int (iZ (n))), (3, .int (iZ (a2))), (2, .int (iZ (a1))), (1, .int (iZ (0))), (0, .ref h0)]) hx hb dX10_tidies_159 hl (by decide) rfl (fun ls hl => ?_)
          refine lv_goto (tgt := 16) hx hb dX10_tidies_161 (by decide) ?_
          exact ih (i + (1 + (rN lx : Int))) ((mm + 1)) ((rapp pb (Std.DTreeMap.Internal.Impl.inner 0 kx (-1) w2 .leaf))) μz H locs ls (by rw [hSx]; omega) (by exact hmore) (by exact hTm) (by exact hfm) (by rw [hzm, hSx]; omega) (by
                            obtain ⟨c9, x1_, x2_⟩ := hx9
                            first
                              | exact ⟨c9, tAl_m1 x1_ hex (by omega), by omega⟩
                              | exact ⟨c9 + c8, tAl_m2 x1_ hex (by omega) y8_, by omega⟩) (by omega) hP hS (lv_sub hl [0, 2, 3, 4, 5, 6, 7] rfl)
      · have hlx := hWx.2.1 (by omega)
        have hmore := RTd_more (z2 := 0) hp hex (Or.inl ⟨by omega, rfl, rfl⟩)
        have hbm := OKr_b (OKr_RT hO (m := mm + 1) (by omega) hmore)
        rw [rapp_N] at hbm
        have hN1 : rN (Std.DTreeMap.Internal.Impl.inner 0 kx vx lx .leaf : Rw) = 1 + rN lx := by rw [rN_in]; rfl
        have hl0 : rN lx = 0 := by rw [hlx]; rfl
        refine lv_aload_n hx hb dX10_tidies_35 rfl (lv_at hl 6 rfl) ?_
        refine lv_iload_n hx hb dX10_tidies_36 rfl (lv_at hl 5 rfl) ?_
        refine lv_iload hx hb dX10_tidies_37 (lv_at hl 0 rfl) ?_
        refine lv_iload hx hb dX10_tidies_39 (lv_at hl 1 rfl) ?_
        refine va_callv (va_runV (As := [.int (iZ (0)), .int (iZ (i)), .int (iZ (54 + n))]) (rest := []) ⟨hx, hb, hml, hown, hts⟩ (m_copies l dC dI cI cZ cII cIII h0 H.size μ (0) (i) (54 + n) (1) (by decide) (by omega) (by omega) (by intro _; omega) (by intro _; omega) (by intro _; show μ (649 + 0) i.toNat = 1; rw [hRx.2.2.1]; omega)) (cwV 3 hts (gV_G k1412 k1414 ks_yX10_copies k13 k1415) rfl rfl rfl (by decide +kernel) ⟨by show 2 + 1 ≤ _; omega, by show 8 + (6 + 11) + (38) ≤ _; omega⟩) ⟨fun a U g mk q => by obtain ⟨q0, q1, qP, qK⟩ := q; exact ⟨q0, q1, qP, va_K.moved (u := U) (U := U.calling g mk a) (Vm.Alike.refl U.vm) qK⟩, va_recv hK hP (ci := 10) (q0 := 0) rfl ((fw_get (by decide)).trans (by rw [mE_obj]; rfl)), fun U hU hW => ⟨rfl, by rw [hU], by rw [hU]; exact hP, va_K.moved hW.alike hK⟩⟩ rfl rfl hl.1 rfl (lv_room (Nat.le_of_ble_eq_true rfl)) dX10_tidies_41 ⟨hRc, hRs⟩) hS (fun q _ h => fA_le hS.1 q h) (fA_le hS.1) (fun u9 t9 H1 locs ht9 hvm9 hw9 hB9 hz9 hk9 hS => ?_)
        obtain ⟨hP, -⟩ := hB9
        rw [ht9] at hP
        generalize H1 = H at hP hS ⊢
        obtain ⟨μx, eμx⟩ : ∃ x : va_M, x = u9 := ⟨_, rfl⟩
        rw [← eμx] at hP hw9
        have hμx := hw9; clear hw9
        obtain ⟨c1, c2, c3⟩ := hμx.2 (by omega)
        rw [show (μ 719 (54 + n).toNat).toNat = rN pb by omega] at c1 c3
        have hTm : TR μx (54 + n).toNat (rapp pb (Std.DTreeMap.Internal.Impl.inner 0 kx vx lx .leaf)) := TR_more hT c1 (by rw [hN1]; omega) (cpy_RA (x := Std.DTreeMap.Internal.Impl.leaf) (f := 0) (i := i.toNat) (r := Std.DTreeMap.Internal.Impl.leaf) (by exact hRx) (by rw [hl0]; exact c3) (fun _ _ _ => ⟨rfl, rfl, rfl⟩) trivial) (by omega)
        have hfm : fr (TC n.toNat) μ0 μx := fr_trans hf (fr_mono c1 (fun x y h => TC_PG htw (by omega) h))
        have hzm : μx 0 38 = μ 0 38 := c1 _ _ (by unfold PG; omega)
        have hspan : μx (649 + 0) i.toNat = 1 + (rN lx : Int) := by rw [c1 _ _ (by unfold PG; omega)]; exact hRx.2.2.1
        refine lv_goto (tgt := 147) hx hb dX10_tidies_44 (by decide) ?_
        refine lv_iload hx hb dX10_tidies_147 (lv_at hl 0 rfl) ?_
        refine lv_aload_n hx hb dX10_tidies_149 rfl (lv_at hl 6 rfl) ?_
        refine fz_get (D := (dC, dI)) (ci := 10) (v := .ref (h0 + 648)) (C := RX10) (T := TX10) (N := 53) hx hb hts inG10 hown hK hP (k := 0) (by decide) (F := mF h0) mE_obj rfl 20 (by decide) (hts _ k1186) (fun _ h9 => h9) rfl dX10_tidies_150 ?_
        refine lv_iload_n hx hb dX10_tidies_153 rfl (lv_at hl 5 rfl) ?_
        refine fz_ald (k := 648) (n := 70) (k2 := (649 + 0)) hx hb hK hP 2 rfl (by decide) mE_span rfl ⟨by omega, by omega⟩ (by decide) (if_pos (by omega)) dX10_tidies_154 ?_
        refine lv_iload hx hb dX10_tidies_155 (lv_at hl 0 rfl) ?_
        refine fz_ld (k := (649 + 0)) (n := 900) hx hb hK hP 0 (by omega) (mE_spanR (by omega)) rfl ⟨by omega, by omega⟩ (by decide) dX10_tidies_157 ?_
        rw [show μx (649 + 0) (i).toNat = 1 + (rN lx : Int) from (by exact hspan)]
        refine lv_iadd hx hb dX10_tidies_158 ?_
        refine lv_topi (fun x9 ex9 => ?_)
        obtain rfl : x9 = iZ (i + (1 + (rN lx : Int))) := ex9.trans (iZ_add _ _)
        refine lv_istore (lv' := [(6, .int (iZ (i + (1 + (rN lx : Int))))), (5, .int (iZ (54 + n))), (4, .int (iZ (n))), (3, .int (iZ (a2))), (2, .int (iZ (a1))), (1, .int (iZ (0))), (0, .ref h0)]) hx hb dX10_tidies_159 hl (by decide) rfl (fun ls hl => ?_)
        refine lv_goto (tgt := 16) hx hb dX10_tidies_161 (by decide) ?_
        exact ih (i + (1 + (rN lx : Int))) ((mm + 1)) ((rapp pb (Std.DTreeMap.Internal.Impl.inner 0 kx vx lx .leaf))) μx H locs ls (by rw [hSx]; omega) (by exact hmore) (by exact hTm) (by exact hfm) (by rw [hzm, hSx]; omega) (by
                        obtain ⟨c9, x1_, x2_⟩ := hx9
                        first
                          | exact ⟨c9, tAl_m1 x1_ hex (by omega), by omega⟩
                          | exact ⟨c9 + c8, tAl_m2 x1_ hex (by omega) y8_, by omega⟩) (by omega) hP hS (lv_sub hl [0, 1, 2, 3, 4, 5, 6] rfl)
set_option maxHeartbeats 40000000 in
set_option maxRecDepth 100000 in
theorem LX10_tidies_164x {p : Program} {l : Launch} {e : Env} {R : Room} {s : State} {m : MethodId} {args : Array Value} {below : List Frame} {meth : Method} {c : Code} {cells slots : Nat} {Q : State → Prop} {dC : Nat → ClassId} {dI : Nat → Nat → Nat} {h0 : Nat} {cI cZ cII cIII : ClassId} {d9 : Nat} (hx : p.tables.exec = Jvm.exec) (hb : c.code = cX10_tidies) (hml : c.maxLocals = 9) (hown : s.vm.findClass RX10 = some m.cls) (hts : ∀ w ∈ wsG, w.before args s = true) (hK : va_K (dC, dI) vwCl (mT cI cZ cII cIII) s) (hRf : d9 + 30 + 1 ≤ R.frames) (hRl : 8 + (9 + 11) + (40 * d9 + 950) ≤ R.locals) (hRc : cells ≤ R.cells) (hRs : slots ≤ R.slots) (hrec : ∀ (sz : Nat) (μ : va_M) (a1 : Int) (a2 : Int) (n : Int) (w : Rw), (0 ≤ n ∧ n + rH w ≤ 16 ∧ n < 16) → (0 ≤ a1 ∧ a2 = a1 + rN w ∧ a2 ≤ 900) → (RA μ 0 w a1.toNat) → (OKr w) → (rH w < d9) → Met l yX10_tidies (Cond.code yX10_tidies cX10_tidies 9 none :: wsG) ({ frames := d9 + 30, cells := 0, slots := 0, locals := 40 * d9 + 950 } : Room) (va_Pc [.ref h0, .int (iZ (0)), .int (iZ (a1)), .int (iZ (a2)), .int (iZ (n))] (fun U => U.heap.size = sz ∧ va_P (dC, dI) vwCl (fw (mE cI cZ cII cIII h0) h0 6325 μ) U.heap ∧ va_K (dC, dI) vwCl (mT cI cZ cII cIII) U)) (va_Qv (fun (u : va_M) => (∃ (w2 : Rw) (c9 : Nat), TR u (54 + n).toNat w2 ∧ TDr w w2 ∧ tdy w w2 c9 ∧ u 0 38 = μ 0 38 + c9) ∧ fr (TC n.toNat) μ u ∧ μ 0 38 ≤ u 0 38 ∧ u 0 38 ≤ μ 0 38 + rN w) (fun u t => va_P (dC, dI) vwCl (fw (mE cI cZ cII cIII h0) h0 6325 u) t.heap ∧ va_K (dC, dI) vwCl (mT cI cZ cII cIII) t) (fA h0 6325 sz)) 0 0 (fA h0 6325 sz)) (μ0 : va_M) (a1 : Int) (a2 : Int) (n : Int) (w : Rw) (hn : 0 ≤ n ∧ n < 16) (hO : OKr w) (hexit186 : ∀ (pb : Rw) (μ : va_M) (H : Heap) (locs : List Loc) (ls : Array Slot), (∃ (w2 : Rw) (c9 : Nat), TR μ (54 + n).toNat w2 ∧ TDr w w2 ∧ tdy w w2 c9 ∧ μ 0 38 = μ0 0 38 + c9) → (fr (TC n.toNat) μ0 μ) → (μ0 0 38 ≤ μ 0 38 ∧ μ 0 38 ≤ μ0 0 38 + rN w) → va_P (dC, dI) vwCl (fw (mE cI cZ cII cIII h0) h0 6325 μ) H → va_S (fA h0 6325 s.heap.size) s.heap H locs → lv_has ls 9 [] → W p l e R s m args below meth c H locs cells slots Q (F0 m 186 ls [])) :
    ∀ (n9 : Nat) (pb : Rw) (μ : va_M) (H : Heap) (locs : List Loc) (ls : Array Slot), (TDr w pb) → (TR μ (54 + n).toNat pb) → (fr (TC n.toNat) μ0 μ) → (μ0 0 38 ≤ μ 0 38 ∧ μ 0 38 + rI pb ≤ μ0 0 38 + rN w) → (∃ (x9 : Rw) (n8 n9 : Nat), tAl w x9 n8 ∧ tSt n9 x9 pb ∧ μ 0 38 = μ0 0 38 + n8 + n9) → rI pb < n9 → va_P (dC, dI) vwCl (fw (mE cI cZ cII cIII h0) h0 6325 μ) H → va_S (fA h0 6325 s.heap.size) s.heap H locs → lv_has ls 9 [(5, .int (iZ (54 + n))), (4, .int (iZ (n))), (3, .int (iZ (a2))), (2, .int (iZ (a1))), (1, .int (iZ (0))), (0, .ref h0)] → W p l e R s m args below meth c H locs cells slots Q (F0 m 164 ls []) := by
  intro n9
  induction n9 with
  | zero => intro pb μ H locs ls hp hT hf hz hx9 hm9 hP hS hl; exact absurd hm9 (Nat.not_lt_zero _)
  | succ n9 ih =>
    intro pb μ H locs ls hp hT hf hz hx9 hm9 hP hS hl
    have htw : (54 + n).toNat = 54 + n.toNat := by omega
    refine lv_aload_n hx hb dX10_tidies_164 rfl (lv_at hl 5 rfl) ?_
    refine lv_iload hx hb dX10_tidies_165 (lv_at hl 0 rfl) ?_
    refine va_calli (va_runV (As := [.int (iZ (54 + n))]) (rest := []) ⟨hx, hb, hml, hown, hts⟩ (m_tidiesOne2 l dC dI cI cZ cII cIII h0 H.size μ (54 + n) (pb) (by omega) (by exact hT) (by exact OKr_TD hp hO)) (cwV 1 hts (gV_G k1444 k1446 ks_yX10_tidiesOne k13 k1447) rfl rfl rfl (by decide +kernel) ⟨by show 27 + 1 ≤ _; omega, by show 8 + (4 + 11) + (860) ≤ _; omega⟩) ⟨fun a U g mk q => by obtain ⟨q0, q1, qP, qK⟩ := q; exact ⟨q0, q1, qP, va_K.moved (u := U) (U := U.calling g mk a) (Vm.Alike.refl U.vm) qK⟩, va_recv hK hP (ci := 10) (q0 := 0) rfl ((fw_get (by decide)).trans (by rw [mE_obj]; rfl)), fun U hU hW => ⟨rfl, by rw [hU], by rw [hU]; exact hP, va_K.moved hW.alike hK⟩⟩ rfl rfl hl.1 rfl (lv_room (Nat.le_of_ble_eq_true rfl)) dX10_tidies_167 ⟨hRc, hRs⟩) hS (fun q _ h => fA_le hS.1 q h) (fA_le hS.1) (fun r9 u9 t9 H1 locs ht9 hvm9 hw9 hB9 hz9 hk9 hS => ?_)
    obtain ⟨μo, ro⟩ := u9
    obtain ⟨hP, -⟩ := hB9
    rw [ht9] at hP
    generalize H1 = H at hP hS ⊢
    obtain ⟨e9, hw9⟩ := hw9
    have e9 : r9 = iZ ro := e9
    subst e9
    simp only at hP hw9
    have hμo := hw9; clear hw9
    refine fz_if_eq (tgt := 186) (by constructor <;> omega) hx hb dX10_tidies_170 (by decide) (fun c170_ => ?_) (fun c170_ => ?_)
    · have hfo9 : fr (fun x y => x = 723) μ μo ∧ tn1 pb := by
        rcases hμo with ⟨_, h⟩ | ⟨h, _⟩
        · exact h
        · omega
      have hfo := hfo9.1
      exact hexit186 (pb) μo H locs ls (by
                    obtain ⟨x9, n8, n9, x1_, x2_, x3_⟩ := hx9
                    exact ⟨pb, n8 + n9, TR_fr hT hfo (fun x => by omega) (by omega), hp, ⟨x9, n8, n9, x1_, x2_, hfo9.2, rfl⟩, by rw [hfo _ _ (by omega)]; omega⟩) (by exact fr_trans hf (fr_mono hfo (fun x y h => by unfold TC; omega))) (by rw [hfo _ _ (by omega)]; omega) hP hS (lv_sub hl [] rfl)
    · obtain ⟨w3, y1_, t9_, y3_, y4_⟩ : ∃ w2 : Rw, TR μo (54 + n).toNat w2 ∧ ts1 pb w2 ∧ rI w2 < rI pb ∧ fr (FQ (54 + n).toNat) μ μo := by
        rcases hμo with ⟨h, _⟩ | ⟨_, h⟩
        · omega
        · exact h
      have hOp9 := OKr_TD hp hO
      have y2_ : TDr pb w3 := (ts1_TQ hOp9.1 hOp9.2.1 t9_).1.1
      have hz1 : μo 0 38 = μ 0 38 := y4_ _ _ (FQ_not (by omega))
      refine lv_aload_n hx hb dX10_tidies_173 rfl (lv_at hl 5 rfl) ?_
      refine lv_dup hx hb dX10_tidies_174 rfl ?_
      refine fz_get (D := (dC, dI)) (ci := 10) (v := .int (iZ (μo 0 38))) (C := RX10) (T := TX10) (N := 53) hx hb hts inG10 hown hK hP (k := 0) (by decide) (F := mF h0) mE_obj rfl 38 (by decide) (hts _ k1204) (fun _ h9 => h9) rfl dX10_tidies_175 ?_
      refine lv_iconst (v := iZ 1) hx hb dX10_tidies_178 rfl ?_
      refine lv_iadd hx hb dX10_tidies_179 ?_
      refine lv_topi (fun x9 ex9 => ?_)
      obtain rfl : x9 = iZ ((μo 0 38) + 1) := ex9.trans (iZ_add _ _)
      refine fz_put (D := (dC, dI)) (ci := 10) (ty := .int) (z := ((μo 0 38) + 1)) (C := RX10) (T := TX10) (N := 53) hx hb hts inG10 tyX10 tyX10_ok nmX10 hown hK hP fA_in hS (k := 0) (by decide) (F := mF h0) mE_obj rfl 38 (by decide) (hts _ k1204) (fun _ h9 => h9) rfl (by decide +kernel) rfl rfl (fun _ => Nat.le_of_ble_eq_true rfl) (fun _ _ => rfl) dX10_tidies_180 (fun H locs hP hS => ?_)
      obtain ⟨μ2, eμ2⟩ : ∃ x : va_M, x = uz μo 0 38 ((μo 0 38) + 1) := ⟨_, rfl⟩
      rw [← eμ2] at hP
      refine lv_goto (tgt := 164) hx hb dX10_tidies_183 (by decide) ?_
      exact ih (w3) μ2 H locs ls (by exact TDr_trans hp y2_) (by
                    rw [eμ2]
                    exact TR_0 y1_) (by rw [eμ2]; exact fr_uz (fr_trans hf (fr_mono y4_ (fun x y h => TC_FQ htw (by omega) h))) (by unfold TC; omega)) (by rw [eμ2, uz_s]; omega) (by
                    obtain ⟨x9, n8, n9, x1_, x2_, x3_⟩ := hx9
                    exact ⟨x9, n8, n9 + 1, x1_, tSt_app n9 _ _ _ x2_ t9_, by rw [eμ2, uz_s]; omega⟩) (by omega) hP hS (lv_sub hl [0, 1, 2, 3, 4, 5] rfl)
set_option maxHeartbeats 40000000 in
set_option maxRecDepth 100000 in
theorem m_tidies2 (l : Launch) (dC : Nat → ClassId) (dI : Nat → Nat → Nat) (cI cZ cII cIII : ClassId) (h0 : Nat) : ∀ (d : Nat), ∀ (sz : Nat) (μ : va_M) (a1 : Int) (a2 : Int) (n : Int) (w : Rw), (0 ≤ n ∧ n + rH w ≤ 16 ∧ n < 16) → (0 ≤ a1 ∧ a2 = a1 + rN w ∧ a2 ≤ 900) → (RA μ 0 w a1.toNat) → (OKr w) → (rH w < d) → Met l yX10_tidies (Cond.code yX10_tidies cX10_tidies 9 none :: wsG) ({ frames := d + 30, cells := 0, slots := 0, locals := 40 * d + 950 } : Room) (va_Pc [.ref h0, .int (iZ (0)), .int (iZ (a1)), .int (iZ (a2)), .int (iZ (n))] (fun U => U.heap.size = sz ∧ va_P (dC, dI) vwCl (fw (mE cI cZ cII cIII h0) h0 6325 μ) U.heap ∧ va_K (dC, dI) vwCl (mT cI cZ cII cIII) U)) (va_Qv (fun (u : va_M) => (∃ (w2 : Rw) (c9 : Nat), TR u (54 + n).toNat w2 ∧ TDr w w2 ∧ tdy w w2 c9 ∧ u 0 38 = μ 0 38 + c9) ∧ fr (TC n.toNat) μ u ∧ μ 0 38 ≤ u 0 38 ∧ u 0 38 ≤ μ 0 38 + rN w) (fun u t => va_P (dC, dI) vwCl (fw (mE cI cZ cII cIII h0) h0 6325 u) t.heap ∧ va_K (dC, dI) vwCl (mT cI cZ cII cIII) t) (fA h0 6325 sz)) 0 0 (fA h0 6325 sz) := by
  intro d
  induction d using Nat.strongRecOn with
  | _ d ih =>
  intro sz μ a1 a2 n w hn ha hR hO hd
  refine Met.ofW (cc := cX10_tidies) (maxL := 9) (ret := none) (by decide) rfl ?_
  intro p e s m args below meth c s₁ B hml hv
  obtain ⟨rfl, hsz, hP, hK⟩ := hv
  have hx := B.exec
  have hb := B.bytes
  have hr := B.returns
  have hts : ∀ w ∈ wsG, w.before _ s = true := hG_of (atoms_spec (ws := (Cond.code yX10_tidies cX10_tidies 9 none :: wsG)) B.pre)
  have hown : s.vm.findClass RX10 = some m.cls := findClass_of_methodNamed B.named
  have hlocks := B.notSynchronized
  subst hsz
  have hS : va_S (fA h0 6325 s.heap.size) s.heap s.heap [] := va_S.rf
  have hl := lv_entry ([.ref h0, .int (iZ (0)), .int (iZ (a1)), .int (iZ (a2)), .int (iZ (n))]) (n := 9) (Nat.le_of_ble_eq_true rfl)
  rw [lg_entry_eq]
  generalize (lg_sl ([.ref h0, .int (iZ (0)), .int (iZ (a1)), .int (iZ (a2)), .int (iZ (n))]) ++ List.replicate (9 - (lg_sl ([.ref h0, .int (iZ (0)), .int (iZ (a1)), .int (iZ (a2)), .int (iZ (n))])).length) Slot.unset).toArray = ls at hl ⊢
  have hl : lv_has ls 9 [(0, .ref h0), (1, .int (iZ (0))), (2, .int (iZ (a1))), (3, .int (iZ (a2))), (4, .int (iZ (n)))] := hl
  refine lv_bipush (v := iZ 54) hx hb dX10_tidies_0 rfl ?_
  refine lv_iload hx hb dX10_tidies_2 (lv_at hl 4 rfl) ?_
  refine lv_iadd hx hb dX10_tidies_4 ?_
  refine lv_topi (fun x9 ex9 => ?_)
  obtain rfl : x9 = iZ (54 + n) := ex9.trans (iZ_add _ _)
  refine lv_istore (lv' := [(5, .int (iZ (54 + n))), (0, .ref h0), (1, .int (iZ (0))), (2, .int (iZ (a1))), (3, .int (iZ (a2))), (4, .int (iZ (n)))]) hx hb dX10_tidies_5 hl (by decide) rfl (fun ls hl => ?_)
  refine lv_aload_n hx hb dX10_tidies_7 rfl (lv_at hl 1 rfl) ?_
  refine lv_iload hx hb dX10_tidies_8 (lv_at hl 0 rfl) ?_
  refine va_callv (va_runV (As := [.int (iZ (54 + n))]) (rest := []) ⟨hx, hb, hml, hown, hts⟩ (m_empties l dC dI cI cZ cII cIII h0 s.heap.size μ (54 + n) (by omega)) (cwV 1 hts (gV_G k1373 k1375 ks_yX10_empties k13 k1376) rfl rfl rfl (by decide +kernel) ⟨by show 1 + 1 ≤ d + 30; omega, by show 8 + (2 + 11) + (14) ≤ 40 * d + 950; omega⟩) ⟨fun a U g mk q => by obtain ⟨q0, q1, qP, qK⟩ := q; exact ⟨q0, q1, qP, va_K.moved (u := U) (U := U.calling g mk a) (Vm.Alike.refl U.vm) qK⟩, va_recv hK hP (ci := 10) (q0 := 0) rfl ((fw_get (by decide)).trans (by rw [mE_obj]; rfl)), fun U hU hW => ⟨rfl, by rw [hU], by rw [hU]; exact hP, va_K.moved hW.alike hK⟩⟩ rfl rfl hl.1 rfl (lv_room (Nat.le_of_ble_eq_true rfl)) dX10_tidies_10 ⟨Nat.le_of_ble_eq_true rfl, Nat.le_of_ble_eq_true rfl⟩) hS (fun q _ h => fA_le hS.1 q h) (fA_le hS.1) (fun u9 t9 H1 locs ht9 hvm9 hw9 hB9 hz9 hk9 hS => ?_)
  obtain ⟨hP, -⟩ := hB9
  rw [ht9] at hP
  generalize H1 = H at hP hS ⊢
  obtain ⟨μe, eμe⟩ : ∃ x : va_M, x = u9 := ⟨_, rfl⟩
  rw [← eμe] at hP hw9
  have hμe := hw9; clear hw9
  have he := hμe
  have htw : (54 + n).toNat = 54 + n.toNat := by omega
  have fe : fr (fun x y => x = 719 ∧ y = (54 + n).toNat) μ μe := by rw [he]; exact fr_uz fr_rfl ⟨rfl, rfl⟩
  refine lv_iload_n hx hb dX10_tidies_13 rfl (lv_at hl 3 rfl) ?_
  refine lv_istore (lv' := [(6, .int (iZ (a1))), (5, .int (iZ (54 + n))), (0, .ref h0), (1, .int (iZ (0))), (2, .int (iZ (a1))), (3, .int (iZ (a2))), (4, .int (iZ (n)))]) hx hb dX10_tidies_14 hl (by decide) rfl (fun ls hl => ?_)
  refine LX10_tidies_16x (d9 := d - 1) hx hb hml hown hts hK (by show ((d - 1)) + 30 + 1 ≤ d + 30; omega) (by show 8 + (9 + 11) + (40 * ((d - 1)) + 950) ≤ 40 * d + 950; omega) (Nat.le_of_ble_eq_true rfl) (Nat.le_of_ble_eq_true rfl) (ih (d - 1) (by omega)) (μe) (a1) (a2) (n) (w) (by assumption) (by assumption) (by exact RA_fr hR fe (fun x => by omega)) (by assumption) (by omega) ?_ _ (a1) (0) (.leaf) μe H locs ls (by
            have h9 : rO w 0 = 0 := by cases w <;> rfl
            rw [h9]; omega) (by trivial) (by exact ⟨by rw [he, uz_s]; rfl, trivial⟩) (by exact fr_rfl) (by
            have h9 : rO w 0 = 0 := by cases w <;> rfl
            rw [h9]; omega) (by exact ⟨0, ⟨rfl, rfl⟩, by omega⟩) (Nat.lt_succ_self _) hP hS (lv_sub hl [0, 1, 6, 5, 4, 3, 2] rfl)
  · intro i_3 mm_3 pb_3 μ3_ H locs ls q1_3 q2_3 q3_3 q4_3 q5_3 hP hS hl
    have hl : lv_has ls 9 [(5, .int (iZ (54 + n))), (4, .int (iZ (n))), (3, .int (iZ (a2))), (2, .int (iZ (a1))), (1, .int (iZ (0))), (0, .ref h0)] := hl
    refine LX10_tidies_164x (d9 := d - 1) hx hb hml hown hts hK (by show ((d - 1)) + 30 + 1 ≤ d + 30; omega) (by show 8 + (9 + 11) + (40 * ((d - 1)) + 950) ≤ 40 * d + 950; omega) (Nat.le_of_ble_eq_true rfl) (Nat.le_of_ble_eq_true rfl) (ih (d - 1) (by omega)) (μe) (a1) (a2) (n) (w) (by omega) (by exact hO) ?_ _ (pb_3) μ3_ H locs ls (by exact (RTd_is _ _ q1_3).1) (by exact q2_3) (by exact q3_3) (by
                have h9 := RTd_I q1_3
                have h8 := q4_3
                omega) (by
                obtain ⟨c9, x1_, x2_⟩ := q5_3
                exact ⟨_, c9, 0, x1_, rfl, by omega⟩) (Nat.lt_succ_self _) hP hS (lv_sub hl [0, 1, 2, 3, 4, 5] rfl)
    · intro pb_4 μ4_ H locs ls q1_4 q2_4 q3_4 hP hS hl
      have hl : lv_has ls 9 [] := hl
      exact W.vret hx hb hr (fun t9 ht9 hW9 => ⟨⟨μ4_, rfl, (by
                    try dsimp only
                    have x0 : μe 0 38 = μ 0 38 := fe _ _ (by omega)
                    have x3 := q3_4
                    obtain ⟨w9, c9, b1_, b2_, b3_, b4_⟩ := q1_4
                    refine ⟨⟨w9, c9, b1_, b2_, b3_, by omega⟩, fr_trans (fr_mono fe (fun x y h => by unfold TC; omega)) q2_4, ?_, ?_⟩
                    · omega
                    · omega), by rw [ht9]; exact hP, va_K.moved hW9.alike hK⟩, hS.F ht9⟩) hS.2.2 dX10_tidies_186

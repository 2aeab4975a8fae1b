theorem dX10_putsRepeat_160 : decode cX10_putsRepeat 160 = .ok (.iload 8, 2) := by decide +kernel
theorem dX10_putsRepeat_162 : decode cX10_putsRepeat 162 = .ok (.iload_n 3, 1) := by decide +kernel
theorem dX10_putsRepeat_163 : decode cX10_putsRepeat 163 = .ok (.if_icmp .ge 20, 3) := by decide +kernel
theorem dX10_putsRepeat_166 : decode cX10_putsRepeat 166 = .ok (.aload_n 0, 1) := by decide +kernel
theorem dX10_putsRepeat_167 : decode cX10_putsRepeat 167 = .ok (.iload_n 1, 1) := by decide +kernel
theorem dX10_putsRepeat_168 : decode cX10_putsRepeat 168 = .ok (.aload_n 2, 1) := by decide +kernel
theorem dX10_putsRepeat_169 : decode cX10_putsRepeat 169 = .ok (.iload 8, 2) := by decide +kernel
theorem dX10_putsRepeat_171 : decode cX10_putsRepeat 171 = .ok (.iaload, 1) := by decide +kernel
theorem dX10_putsRepeat_172 : decode cX10_putsRepeat 172 = .ok (.bipush 52, 2) := by decide +kernel
theorem dX10_putsRepeat_174 : decode cX10_putsRepeat 174 = .ok (.invokevirtual 200, 3) := by decide +kernel
theorem dX10_putsRepeat_177 : decode cX10_putsRepeat 177 = .ok (.iinc 8 1, 3) := by decide +kernel
theorem dX10_putsRepeat_180 : decode cX10_putsRepeat 180 = .ok (.goto (-20), 3) := by decide +kernel
theorem rO_end (w : Rw) : rO w (rI w) = rN w ∧ rdrop (rI w) w = .leaf := by
  have h1 := rdrop_I (rI w) w
  have h2 := rdrop_N (rI w) w
  have h3 : rdrop (rI w) w = .leaf := by
    cases h : rdrop (rI w) w with
    | leaf => rfl
    | inner z k v l r => rw [h, rI_in] at h1; omega
  rw [h3] at h2
  exact ⟨by have h4 : rN (Std.DTreeMap.Internal.Impl.leaf : Rw) = 0 := rfl; omega, h3⟩
/-- the repeat's items take as many places as the first copy's -/
theorem frow_N {w : Rw} {a n1 n : Nat} (hn : 1 ≤ n) (hwf : rWF w) (hal : ∀ e m : Nat, 1 ≤ e → e < n → m < n1 → halk (rdrop (a + m) w) (rdrop (a + e * n1 + m) w)) (hI : a + n1 ≤ rI w) : ∀ m j : Nat, j + m = n1 → rO w (a + j) + rN (frow w a n1 n j m) = rO w (a + j + m)
  | 0, j, _ => by
    show rO w (a + j) + 0 = rO w (a + j + 0)
    rw [Nat.add_zero, Nat.add_zero]
  | m + 1, j, h => by
    have h1 := frow_N hn hwf hal hI m (j + 1) (by omega)
    have h2 := rdrop_I (a + j) w
    obtain ⟨z, k, v, l, r, hx⟩ := rI_pos (w := rdrop (a + j) w) (by omega)
    have h3 := rO_S _ _ _ _ _ _ _ hx
    have hal9 : ∀ e9 : Nat, 1 ≤ e9 → e9 < n → halk (rdrop (a + j) w) (rdrop (a + e9 * n1 + j) w) := fun e9 q1 q2 => hal e9 j q1 q2 (by omega)
    obtain ⟨kf, vf, lf, hf⟩ := facc_one (n := n) hal9 (by rw [hx, rI_in]; omega) (n - 1) (by omega)
    obtain ⟨_, _, s3, _⟩ := facc_ok (n := n) hwf hal9 (n - 1) (by omega)
    have hz : rN (Std.DTreeMap.Internal.Impl.leaf : Rw) = 0 := rfl
    rw [hf, hx, hd1, rN_in, rN_in, hz] at s3
    rw [frow, hf]
    show rO w (a + j) + rN (Std.DTreeMap.Internal.Impl.inner 0 kf vf lf (frow w a n1 n (j + 1) m) : Rw) = _
    rw [rN_in]
    rw [show a + (j + 1) = a + j + 1 by omega] at h1
    rw [show a + j + (m + 1) = a + j + 1 + m by omega]
    omega
set_option maxHeartbeats 40000000 in
set_option maxRecDepth 100000 in
theorem LX10_putsRepeat_160 {p : Program} {l : Launch} {e : Env} {R : Room} {s : State} {m : MethodId} {args : Array Value} {below : List Frame} {meth : Method} {c : Code} {cells slots : Nat} {Q : State → Prop} {dC : Nat → ClassId} {dI : Nat → Nat → Nat} {h0 : Nat} {cI cZ cII cIII : ClassId} (hx : p.tables.exec = Jvm.exec) (hb : c.code = cX10_putsRepeat) (hml : c.maxLocals = 10) (hown : s.vm.findClass RX10 = some m.cls) (hts : ∀ w ∈ wsG, w.before args s = true) (hK : va_K (dC, dI) vwCl (mT cI cZ cII cIII) s) (hRf : 3 ≤ R.frames) (hRl : 63 ≤ R.locals) (hRc : cells ≤ R.cells) (hRs : slots ≤ R.slots) (μ0 : va_M) (t : Int) (q : Nat) (m9 : Int) (w : Rw) (k0 : Int) (c0 : Int) (fin : Rw) (ht : 0 ≤ t ∧ t < 70) (hq : (723 ≤ q ∧ q < 737) ∨ (738 ≤ q ∧ q < 752)) (hR : RA μ0 t.toNat w 0) (hN : rN w ≤ 900) (hwf : rWF w) (hHH : rH w ≤ 20) (hrow : rowIs μ0 q w 0) (h260 : rI w ≤ 260) (ht3 : t ≠ 50 ∧ t ≠ 51 ∧ t ≠ 52) (hm9 : m9 = rI w) (hcap : 0 ≤ c0 ∧ c0 + (rN w - rO w k0.toNat) ≤ 900) (hk0 : 0 ≤ k0 ∧ k0 ≤ rI w) (hexit183 : ∀ (k : Int) (μ : va_M) (H : Heap) (locs : List Loc) (ls : Array Slot), (fr (PT 52) μ0 μ) → (μ 719 52 = c0 + (rN w - rO w k0.toNat)) → (RA μ 52 fin 0) → va_P (dC, dI) vwCl (fw (mE cI cZ cII cIII h0) h0 6325 μ) H → va_S (fA h0 6325 s.heap.size) s.heap H locs → lv_has ls 10 [(0, .ref h0), (1, .int (iZ (t)))] → W p l e R s m args below meth c H locs cells slots Q (F0 m 183 ls [])) :
    ∀ (n9 : Nat) (k : Int) (μ : va_M) (H : Heap) (locs : List Loc) (ls : Array Slot), (k0 ≤ k ∧ k ≤ m9) → (fr (PT 52) μ0 μ) → (μ 719 52 = c0 + (rO w k.toNat - rO w k0.toNat)) → (∀ u8 : va_M, agr μ u8 52 0 (μ 719 52).toNat → RA u8 52 (rdrop k.toNat w) (μ 719 52).toNat → RA u8 52 fin 0) → (m9 - k).toNat < n9 → va_P (dC, dI) vwCl (fw (mE cI cZ cII cIII h0) h0 6325 μ) H → va_S (fA h0 6325 s.heap.size) s.heap H locs → lv_has ls 10 [(8, .int (iZ (k))), (0, .ref h0), (1, .int (iZ (t))), (2, .ref (h0 + q)), (3, .int (iZ (m9)))] → W p l e R s m args below meth c H locs cells slots Q (F0 m 160 ls []) := by
  intro n9
  induction n9 with
  | zero => intro k μ H locs ls hk hfr hN5 hc hm9 hP hS hl; exact absurd hm9 (Nat.not_lt_zero _)
  | succ n9 ih =>
    intro k μ H locs ls hk hfr hN5 hc hm9 hP hS hl
    have hqq : 723 ≤ q ∧ q < 752 := by omega
    have hq9 : rowQ q := hq
    clear hq
    refine lv_iload hx hb dX10_putsRepeat_160 (lv_at hl 0 rfl) ?_
    refine lv_iload_n hx hb dX10_putsRepeat_162 rfl (lv_at hl 4 rfl) ?_
    refine fz_icmp_ge (tgt := 183) (by constructor <;> omega) (by constructor <;> omega) hx hb dX10_putsRepeat_163 (by decide) (fun c163_ => ?_) (fun c163_ => ?_)
    · exact hexit183 (k) μ H locs ls (by exact hfr) (by
                    have h9 := (rO_end w).1
                    rw [show k.toNat = rI w by omega, h9] at hN5
                    exact hN5) (by
                    have h9 := (rO_end w).2
                    rw [show k.toNat = rI w by omega, h9] at hc
                    exact hc μ (fun _ _ _ => ⟨rfl, rfl, rfl⟩) trivial) hP hS (lv_sub hl [1, 2] rfl)
    · have hIx := rdrop_I (k.toNat) w
      have hNx := rdrop_N (k.toNat) w
      have hHx := rdrop_H (k.toNat) w
      have hFx := rdrop_WF (k.toNat) w hwf
      have hRx := RA_drop (k.toNat) w 0 hR
      obtain ⟨zx, kx, vx, lx, wx, hex⟩ := rI_pos (w := rdrop (k.toNat) w) (by omega)
      rw [hex] at hIx hNx hHx hFx hRx
      rw [rN_in] at hNx; rw [rI_in] at hIx; rw [rH_in] at hHx
      obtain ⟨rx1, rx2, rx3, rx4, rx5⟩ := hRx
      rw [Nat.zero_add] at rx1 rx2 rx3 rx4
      have fxA : iWF kx vx lx := ⟨hFx.1, hFx.2.1, hFx.2.2.1, hFx.2.2.2.1, hFx.2.2.2.2.1, hFx.2.2.2.2.2.1, hFx.2.2.2.2.2.2.1⟩
      have hrS := rO_S _ _ _ _ _ _ _ hex
      have hmo := rO_mono k0.toNat k.toNat w (by omega)
      have hcell : ∀ x, μ (507 + t.toNat) x = μ0 (507 + t.toNat) x ∧ μ (578 + t.toNat) x = μ0 (578 + t.toNat) x ∧ μ (649 + t.toNat) x = μ0 (649 + t.toNat) x := fun x => ⟨hfr _ x (by unfold PT; omega), hfr _ x (by unfold PT; omega), hfr _ x (by unfold PT; omega)⟩
      have hRx : RA μ t.toNat (Std.DTreeMap.Internal.Impl.inner zx kx vx lx wx) (rO w k.toNat) := RA_kept ⟨rx1, rx2, rx3, rx4, by rw [Nat.zero_add] at rx5; exact rx5⟩ (fun x _ _ => hcell x)
      refine lv_aload_n hx hb dX10_putsRepeat_166 rfl (lv_at hl 1 rfl) ?_
      refine lv_iload_n hx hb dX10_putsRepeat_167 rfl (lv_at hl 2 rfl) ?_
      refine lv_aload_n hx hb dX10_putsRepeat_168 rfl (lv_at hl 3 rfl) ?_
      refine lv_iload hx hb dX10_putsRepeat_169 (lv_at hl 0 rfl) ?_
      refine fz_ld (k := q) (n := 260) hx hb hK hP 0 (by omega) (mE_rowAny (by first | exact hq9 | exact hq)) rfl ⟨by omega, by omega⟩ (by decide) dX10_putsRepeat_171 ?_
      rw [show μ q (k).toNat = (rO w k.toNat : Int) from (by rw [hfr _ _ (by unfold PT; omega), hrow _ (by omega)]; omega)]
      refine lv_bipush (v := iZ 52) hx hb dX10_putsRepeat_172 rfl ?_
      refine va_callv (va_runV (As := [.int (iZ (t)), .int (iZ ((rO w k.toNat : Int))), .int (iZ (52))]) (rest := []) ⟨hx, hb, hml, hown, hts⟩ (m_copies l dC dI cI cZ cII cIII h0 H.size μ (t) ((rO w k.toNat : Int)) (52) (1 + (rN lx : Int)) (by first | assumption | omega | exact ⟨by omega, by omega⟩) (by decide) (by omega) (by intro _; omega) (by intro _; show 0 ≤ μ 719 52 ∧ μ 719 52 + _ ≤ 900; omega) (by intro _; exact hRx.2.2.1)) (cwV 3 hts (gV_G k1416 k1418 ks_yX10_copies k13 k1419) rfl rfl rfl (by decide +kernel) ⟨by show 2 + 1 ≤ _; omega, by show 8 + (6 + 11) + (38) ≤ _; omega⟩) ⟨fun a U g mk q => by obtain ⟨q0, q1, qP, qK⟩ := q; exact ⟨q0, q1, qP, va_K.moved (u := U) (U := U.calling g mk a) (Vm.Alike.refl U.vm) qK⟩, va_recv hK hP (ci := 10) (q0 := 0) rfl ((fw_get (by decide)).trans (by rw [mE_obj]; rfl)), fun U hU hW => ⟨rfl, by rw [hU], by rw [hU]; exact hP, va_K.moved hW.alike hK⟩⟩ rfl rfl hl.1 rfl (lv_room (Nat.le_of_ble_eq_true rfl)) dX10_putsRepeat_174 ⟨hRc, hRs⟩) hS (fun q _ h => fA_le hS.1 q h) (fA_le hS.1) (fun u9 t9 H1 locs ht9 hvm9 hw9 hB9 hz9 hk9 hS => ?_)
      obtain ⟨hP, -⟩ := hB9
      rw [ht9] at hP
      generalize H1 = H at hP hS ⊢
      obtain ⟨μx, eμx⟩ : ∃ x : va_M, x = u9 := ⟨_, rfl⟩
      rw [← eμx] at hP hw9
      have hμx := hw9; clear hw9
      obtain ⟨c1, c2, c3⟩ := hμx.2 (by decide)
      have e52 : (52 : Int).toNat = 52 := rfl
      rw [e52] at c1 c2 c3
      have c3 : cpy μ μx t.toNat (rO w k.toNat) 52 (μ 719 52).toNat (1 + rN lx) := by have h9 := c3; rw [show (rO w k.toNat : Int).toNat = rO w k.toNat from rfl, show (1 + (rN lx : Int)).toNat = 1 + rN lx by omega] at h9; exact h9
      have hdS : rdrop (k.toNat + 1) w = wx := by
        have h9 : ∀ (m : Nat) (y : Rw) (z5 k5 : Nat) (v5 : Int) (l5 r5 : Rw), rdrop m y = Std.DTreeMap.Internal.Impl.inner z5 k5 v5 l5 r5 → rdrop (m + 1) y = r5 := by
          intro m
          induction m with
          | zero => intro y z5 k5 v5 l5 r5 h; have h : y = Std.DTreeMap.Internal.Impl.inner z5 k5 v5 l5 r5 := h; subst h; rfl
          | succ m ih5 =>
            intro y z5 k5 v5 l5 r5 h
            cases y with
            | leaf => have h : (Std.DTreeMap.Internal.Impl.leaf : Rw) = Std.DTreeMap.Internal.Impl.inner z5 k5 v5 l5 r5 := h; cases h
            | inner z6 k6 v6 l6 r6 => exact ih5 r6 z5 k5 v5 l5 r5 h
        exact h9 _ _ _ _ _ _ _ hex
      refine lv_iinc (v := iZ (k + 1)) (lv' := [(8, .int (iZ (k + 1))), (0, .ref h0), (1, .int (iZ (t))), (2, .ref (h0 + q)), (3, .int (iZ (m9)))]) hx hb dX10_putsRepeat_177 hl (k := 0) rfl (iZ_add _ _) (by decide) rfl (fun ls hl => ?_)
      refine lv_goto (tgt := 160) hx hb dX10_putsRepeat_180 (by decide) ?_
      exact ih (k + 1) μx H locs ls (by omega) (by exact fr_trans hfr (fr_mono c1 (fun _ _ h => PG_PT h))) (by rw [show (k + 1).toNat = k.toNat + 1 by omega, hrS]; omega) (by
                    rw [show (k + 1).toNat = k.toNat + 1 by omega, hdS, show (μx 719 52).toNat = (μ 719 52).toNat + 1 + rN lx by omega]
                    intro u8 ha8 hx8
                    refine hc u8 (fun y hy1 hy2 => ?_) ?_
                    · have h7 := ha8 y hy1 (by omega)
                      rw [h7.1, h7.2.1, h7.2.2]
                      exact ⟨c1 _ _ (by unfold PG; omega), c1 _ _ (by unfold PG; omega), c1 _ _ (by unfold PG; omega)⟩
                    · rw [hex]
                      exact cpy_RA hRx c3 (fun y hy1 hy2 => ha8 y (by omega) (by omega)) hx8) (by omega) hP hS (lv_sub hl [0, 1, 2, 3, 4] rfl)

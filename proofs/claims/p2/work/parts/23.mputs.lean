theorem dX10_putsRepeat_9 : decode cX10_putsRepeat 9 = .ok (.iload 7, 2) := by decide +kernel
theorem dX10_putsRepeat_11 : decode cX10_putsRepeat 11 = .ok (.iload 4, 2) := by decide +kernel
theorem dX10_putsRepeat_13 : decode cX10_putsRepeat 13 = .ok (.if_icmp .ge 20, 3) := by decide +kernel
theorem dX10_putsRepeat_16 : decode cX10_putsRepeat 16 = .ok (.aload_n 0, 1) := by decide +kernel
theorem dX10_putsRepeat_17 : decode cX10_putsRepeat 17 = .ok (.iload_n 1, 1) := by decide +kernel
theorem dX10_putsRepeat_18 : decode cX10_putsRepeat 18 = .ok (.aload_n 2, 1) := by decide +kernel
theorem dX10_putsRepeat_19 : decode cX10_putsRepeat 19 = .ok (.iload 7, 2) := by decide +kernel
theorem dX10_putsRepeat_21 : decode cX10_putsRepeat 21 = .ok (.iaload, 1) := by decide +kernel
theorem dX10_putsRepeat_22 : decode cX10_putsRepeat 22 = .ok (.bipush 52, 2) := by decide +kernel
theorem dX10_putsRepeat_24 : decode cX10_putsRepeat 24 = .ok (.invokevirtual 200, 3) := by decide +kernel
theorem dX10_putsRepeat_27 : decode cX10_putsRepeat 27 = .ok (.iinc 7 1, 3) := by decide +kernel
theorem dX10_putsRepeat_30 : decode cX10_putsRepeat 30 = .ok (.goto (-21), 3) := by decide +kernel
theorem rO_S : ∀ (m : Nat) (w : Rw) (z k : Nat) (v : Int) (l r : Rw), rdrop m w = Std.DTreeMap.Internal.Impl.inner z k v l r → rO w (m + 1) = rO w m + 1 + rN l
  | 0, w, z, k, v, l, r, h => by
    have h : w = Std.DTreeMap.Internal.Impl.inner z k v l r := h
    subst h
    show 1 + rN l + rO r 0 = 0 + 1 + rN l
    cases r <;> (show 1 + rN l + 0 = _; omega)
  | m + 1, .leaf, z, k, v, l, r, h => by
    have h : (Std.DTreeMap.Internal.Impl.leaf : Rw) = Std.DTreeMap.Internal.Impl.inner z k v l r := h
    cases h
  | m + 1, .inner z0 k0 v0 l0 r0, z, k, v, l, r, h => by
    have h9 := rO_S m r0 z k v l r h
    have e1 : rO (Std.DTreeMap.Internal.Impl.inner z0 k0 v0 l0 r0 : Rw) (m + 1 + 1) = 1 + rN l0 + rO r0 (m + 1) := rfl
    have e2 : rO (Std.DTreeMap.Internal.Impl.inner z0 k0 v0 l0 r0 : Rw) (m + 1) = 1 + rN l0 + rO r0 m := rfl
    rw [e1, e2, h9]; omega
/-- the fused copies are one item -/
theorem facc_one {w : Rw} {a n1 k n : Nat} (hal : ∀ e : Nat, 1 ≤ e → e < n → halk (rdrop (a + k) w) (rdrop (a + e * n1 + k) w)) (h0 : 0 < rI (rdrop (a + k) w)) : ∀ e : Nat, e < n → ∃ (k9 : Nat) (v9 : Int) (l9 : Rw), facc w a n1 k e = Std.DTreeMap.Internal.Impl.inner 0 k9 v9 l9 .leaf
  | 0, _ => by
    obtain ⟨z, k1, v, l, r, h⟩ := rI_pos h0
    exact ⟨k1, v, l, by rw [facc, h]; rfl⟩
  | e + 1, he => by
    obtain ⟨k1, v1, l1, h1⟩ := facc_one hal h0 e (by omega)
    have h2 := hal (e + 1) (by omega) he
    cases hx : rdrop (a + (e + 1) * n1 + k) w with
    | leaf => rw [hx] at h2; cases hy : rdrop (a + k) w <;> (rw [hy] at h2; exact h2.elim)
    | inner z k2 v2 l2 r =>
      refine ⟨fK k1 v1 k2 v2, fV k1 v1 k2 v2, rfus l1 l2, ?_⟩
      rw [facc, h1, hx]
      rfl
/-- an item copied behind what stands -/
theorem cpy_RA {μ u u8 : va_M} {f t i n z k : Nat} {v : Int} {l r x : Rw} (hR : RA μ f (Std.DTreeMap.Internal.Impl.inner z k v l r) i) (hc : cpy μ u f i t n (1 + rN l)) (ha : agr u u8 t n (n + 1 + rN l)) (hx : RA u8 t x (n + 1 + rN l)) : RA u8 t (Std.DTreeMap.Internal.Impl.inner z k v l x) n := by
  obtain ⟨r1, r2, r3, r4, r5⟩ := hR
  have c0 := hc 0 (by omega)
  have a0 := ha n (Nat.le_refl n) (by omega)
  rw [Nat.add_zero, Nat.add_zero] at c0
  refine ⟨a0.1.trans (c0.1.trans r1), a0.2.1.trans (c0.2.1.trans r2), a0.2.2.trans (c0.2.2.trans r3), RA_shift l _ _ r4 (fun d hd => ?_), hx⟩
  have c1 := hc (1 + d) (by omega)
  have a1 := ha (n + (1 + d)) (by omega) (by omega)
  rw [show n + 1 + d = n + (1 + d) by omega, show i + 1 + d = i + (1 + d) by omega]
  exact ⟨a1.1.trans c1.1, a1.2.1.trans c1.2.1, a1.2.2.trans c1.2.2⟩
set_option maxHeartbeats 4000000 in
set_option maxRecDepth 100000 in
theorem LX10_putsRepeat_9 {p : Program} {l : Launch} {e : Env} {R : Room} {s : State} {m : MethodId} {args : Array Value} {below : List Frame} {meth : Method} {c : Code} {cells slots : Nat} {Q : State → Prop} {dC : Nat → ClassId} {dI : Nat → Nat → Nat} {h0 : Nat} {cI cZ cII cIII : ClassId} (hx : p.tables.exec = Jvm.exec) (hb : c.code = cX10_putsRepeat) (hml : c.maxLocals = 10) (hown : s.vm.findClass RX10 = some m.cls) (hts : ∀ w ∈ wsG, w.before args s = true) (hK : va_K (dC, dI) vwCl (mT cI cZ cII cIII) s) (hRf : 3 ≤ R.frames) (hRl : 63 ≤ R.locals) (hRc : cells ≤ R.cells) (hRs : slots ≤ R.slots) (μ0 : va_M) (t : Int) (q : Nat) (m9 : Int) (a : Int) (n1 : Int) (n : Int) (w : Rw) (ht : 0 ≤ t ∧ t < 70) (hq : (723 ≤ q ∧ q < 737) ∨ (738 ≤ q ∧ q < 752)) (hR : RA μ0 t.toNat w 0) (hN : rN w ≤ 900) (hwf : rWF w) (hHH : rH w ≤ 20) (hrow : rowIs μ0 q w 0) (h260 : rI w ≤ 260) (ht3 : t ≠ 50 ∧ t ≠ 51 ∧ t ≠ 52) (ha : 0 ≤ a ∧ a ≤ rI w) (hexit33 : ∀ (k : Int) (μ : va_M) (H : Heap) (locs : List Loc) (ls : Array Slot), (fr (PT 52) μ0 μ) → (μ 719 52 = rO w a.toNat) → (∀ (u8 : va_M) (x : Rw), agr μ u8 52 0 (rO w a.toNat) → RA u8 52 x (rO w a.toNat) → RA u8 52 (rpre a.toNat w x) 0) → va_P (dC, dI) vwCl (fw (mE cI cZ cII cIII h0) h0 6325 μ) H → va_S (fA h0 6325 s.heap.size) s.heap H locs → lv_has ls 10 [(0, .ref h0), (1, .int (iZ (t))), (2, .ref (h0 + q)), (3, .int (iZ (m9))), (4, .int (iZ (a))), (5, .int (iZ (n1))), (6, .int (iZ (n)))] → W p l e R s m args below meth c H locs cells slots Q (F0 m 33 ls [])) :
    ∀ (n9 : Nat) (k : Int) (μ : va_M) (H : Heap) (locs : List Loc) (ls : Array Slot), (0 ≤ k ∧ k ≤ a) → (fr (PT 52) μ0 μ) → (μ 719 52 = rO w k.toNat) → (∀ (u8 : va_M) (x : Rw), agr μ u8 52 0 (rO w k.toNat) → RA u8 52 x (rO w k.toNat) → RA u8 52 (rpre k.toNat w x) 0) → (a - k).toNat < n9 → va_P (dC, dI) vwCl (fw (mE cI cZ cII cIII h0) h0 6325 μ) H → va_S (fA h0 6325 s.heap.size) s.heap H locs → lv_has ls 10 [(7, .int (iZ (k))), (0, .ref h0), (1, .int (iZ (t))), (2, .ref (h0 + q)), (3, .int (iZ (m9))), (4, .int (iZ (a))), (5, .int (iZ (n1))), (6, .int (iZ (n)))] → W p l e R s m args below meth c H locs cells slots Q (F0 m 9 ls []) := by
  intro n9
  induction n9 with
  | zero => intro k μ H locs ls hk hfr hN5 hc hm9 hP hS hl; exact absurd hm9 (Nat.not_lt_zero _)
  | succ n9 ih =>
    intro k μ H locs ls hk hfr hN5 hc hm9 hP hS hl
    refine lv_iload hx hb dX10_putsRepeat_9 (lv_at hl 0 rfl) ?_
    refine lv_iload hx hb dX10_putsRepeat_11 (lv_at hl 5 rfl) ?_
    refine fz_icmp_ge (tgt := 33) (by constructor <;> omega) (by constructor <;> omega) hx hb dX10_putsRepeat_13 (by decide) (fun c13_ => ?_) (fun c13_ => ?_)
    · exact hexit33 (k) μ H locs ls (by exact hfr) (by
                    obtain rfl : k = a := by omega
                    exact hN5) (by
                    obtain rfl : k = a := by omega
                    exact hc) hP hS (lv_sub hl [1, 2, 3, 4, 5, 6, 7] rfl)
    · have hIx := rdrop_I (k.toNat) w
      have hNx := rdrop_N (k.toNat) w
      have hHx := rdrop_H (k.toNat) w
      have hFx := rdrop_WF (k.toNat) w hwf
      have hRx := RA_drop (k.toNat) w 0 hR
      obtain ⟨zx, kx, vx, lx, wx, hex⟩ := rI_pos (w := rdrop (k.toNat) w) (by omega)
      rw [hex] at hIx hNx hHx hFx hRx
      rw [rN_in] at hNx; rw [rI_in] at hIx; rw [rH_in] at hHx
      obtain ⟨fx1, fx2, fx3, fx4, fx5, fx6, fx7, fx8⟩ := hFx
      obtain ⟨rx1, rx2, rx3, rx4, rx5⟩ := hRx
      rw [Nat.zero_add] at rx1 rx2 rx3 rx4
      have hrS := rO_S _ _ _ _ _ _ _ hex
      have hcell : ∀ x, μ (507 + t.toNat) x = μ0 (507 + t.toNat) x ∧ μ (578 + t.toNat) x = μ0 (578 + t.toNat) x ∧ μ (649 + t.toNat) x = μ0 (649 + t.toNat) x := fun x => ⟨hfr _ _ (by unfold PT; omega), hfr _ _ (by unfold PT; omega), hfr _ _ (by unfold PT; omega)⟩
      have hRx : RA μ t.toNat (Std.DTreeMap.Internal.Impl.inner zx kx vx lx wx) (rO w k.toNat) := RA_kept ⟨rx1, rx2, rx3, rx4, by rw [Nat.zero_add] at rx5; exact rx5⟩ (fun x _ _ => hcell x)
      refine lv_aload_n hx hb dX10_putsRepeat_16 rfl (lv_at hl 1 rfl) ?_
      refine lv_iload_n hx hb dX10_putsRepeat_17 rfl (lv_at hl 2 rfl) ?_
      refine lv_aload_n hx hb dX10_putsRepeat_18 rfl (lv_at hl 3 rfl) ?_
      refine lv_iload hx hb dX10_putsRepeat_19 (lv_at hl 0 rfl) ?_
      refine fz_ld (k := q) (n := 260) hx hb hK hP 0 (by omega) (mE_rowAny (by omega)) rfl ⟨by omega, by omega⟩ (by decide) dX10_putsRepeat_21 ?_
      rw [show μ q (k).toNat = (rO w k.toNat : Int) from (by rw [hfr _ _ (by unfold PT; omega), hrow _ (by omega)]; omega)]
      refine lv_bipush (v := iZ 52) hx hb dX10_putsRepeat_22 rfl ?_
      refine va_callv (va_runV (As := [.int (iZ (t)), .int (iZ ((rO w k.toNat : Int))), .int (iZ (52))]) (rest := []) ⟨hx, hb, hml, hown, hts⟩ (m_copies l dC dI cI cZ cII cIII h0 H.size μ (t) ((rO w k.toNat : Int)) (52) (1 + (rN lx : Int)) (by first | assumption | omega | exact ⟨by omega, by omega⟩) (by first | assumption | omega | exact ⟨by omega, by omega⟩) (by omega) (by intro _; omega) (by intro _; show 0 ≤ μ 719 52 ∧ μ 719 52 + _ ≤ 900; omega) (by intro _; exact hRx.2.2.1)) (cwV 3 hts (gV_G k1412 k1414 ks_yX10_copies k13 k1415) rfl rfl rfl (by decide +kernel) ⟨by show 2 + 1 ≤ _; omega, by show 8 + (6 + 11) + (38) ≤ _; omega⟩) ⟨fun a U g mk q => by obtain ⟨q0, q1, qP, qK⟩ := q; exact ⟨q0, q1, qP, va_K.moved (u := U) (U := U.calling g mk a) (Vm.Alike.refl U.vm) qK⟩, va_recv hK hP (ci := 10) (q0 := 0) rfl ((fw_get (by decide)).trans (by rw [mE_obj]; rfl)), fun U hU hW => ⟨rfl, by rw [hU], by rw [hU]; exact hP, va_K.moved hW.alike hK⟩⟩ rfl rfl hl.1 rfl (lv_room (Nat.le_of_ble_eq_true rfl)) dX10_putsRepeat_24 ⟨hRc, hRs⟩) hS (fun q _ h => fA_le hS.1 q h) (fA_le hS.1) (fun u9 t9 H1 locs ht9 hvm9 hw9 hB9 hz9 hk9 hS => ?_)
      obtain ⟨hP, -⟩ := hB9
      rw [ht9] at hP
      generalize H1 = H at hP hS ⊢
      obtain ⟨μx, eμx⟩ : ∃ x : va_M, x = u9 := ⟨_, rfl⟩
      rw [← eμx] at hP hw9
      have hμx := hw9; clear hw9
      obtain ⟨c1, c2, c3⟩ := hμx.2 (by decide)
      have e52 : (52 : Int).toNat = 52 := rfl
      rw [e52] at c1 c2 c3
      have eN : (μ 719 52).toNat = rO w k.toNat := by omega
      rw [eN] at c1 c3
      have c3 : cpy μ μx t.toNat (rO w k.toNat) 52 (rO w k.toNat) (1 + rN lx) := by have := c3; rw [show (rO w k.toNat : Int).toNat = rO w k.toNat from rfl, show (1 + (rN lx : Int)).toNat = 1 + rN lx by omega] at this; exact this
      refine lv_iinc (v := iZ (k + 1)) (lv' := [(7, .int (iZ (k + 1))), (0, .ref h0), (1, .int (iZ (t))), (2, .ref (h0 + q)), (3, .int (iZ (m9))), (4, .int (iZ (a))), (5, .int (iZ (n1))), (6, .int (iZ (n)))]) hx hb dX10_putsRepeat_27 hl (k := 0) rfl (iZ_add _ _) (by decide) rfl (fun ls hl => ?_)
      refine lv_goto (tgt := 9) hx hb dX10_putsRepeat_30 (by decide) ?_
      exact ih (k + 1) μx H locs ls (by omega) (by exact fr_trans hfr (fr_mono c1 (fun _ _ h => PG_PT h))) (by rw [show (k + 1).toNat = k.toNat + 1 by omega, hrS]; omega) (by
                    rw [show (k + 1).toNat = k.toNat + 1 by omega, hrS]
                    intro u8 x ha8 hx8
                    rw [rpre_S _ _ _ _ _ _ _ _ hex]
                    refine hc u8 _ (fun y hy1 hy2 => ?_) (cpy_RA hRx c3 (fun y hy1 hy2 => ha8 y (by omega) (by omega)) hx8)
                    have h7 := ha8 y (by omega) (by omega)
                    rw [h7.1, h7.2.1, h7.2.2]
                    exact ⟨c1 _ _ (by unfold PG; omega), c1 _ _ (by unfold PG; omega), c1 _ _ (by unfold PG; omega)⟩) (by omega) hP hS (lv_sub hl [0, 1, 2, 3, 4, 5, 6, 7] rfl)

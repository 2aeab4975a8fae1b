theorem k1424 : (Cond.methodLink "PageSkeletonModel" (241 : Nat) ({ cls := "PageSkeletonModel", name := "copiesAll", desc := "(II)V" } : MethodName)) ∈ wsG := wsG_at 1424 (by decide +kernel) (by decide +kernel)
theorem k1426 : (Cond.instanceMethod ({ cls := "PageSkeletonModel", name := "copiesAll", desc := "(II)V" } : MethodName)) ∈ wsG := wsG_at 1426 (by decide +kernel) (by decide +kernel)
theorem k1427 : (Cond.code ({ cls := "PageSkeletonModel", name := "copiesAll", desc := "(II)V" } : MethodName) prog_12_method_21_code (4 : Nat) (Option.none : Option Jvm.ClassFile.FieldType)) ∈ wsG := wsG_at 1427 (by decide +kernel) (by decide +kernel)
theorem ks_yX10_copiesAll : Cond.selects RX10 yX10_copiesAll yX10_copiesAll ∈ wsG := wsG_mem (by decide +kernel) (by decide +kernel)
theorem dX10_putsRepeat_9 : decode cX10_putsRepeat 9 = .ok (.iload 7, 2) := by decide +kernel
theorem dX10_putsRepeat_11 : decode cX10_putsRepeat 11 = .ok (.iload 4, 2) := by decide +kernel
theorem dX10_putsRepeat_13 : decode cX10_putsRepeat 13 = .ok (.if_icmp .ge 20, 3) := by decide +kernel
theorem dX10_putsRepeat_16 : decode cX10_putsRepeat 16 = .ok (.aload_n 0, 1) := by decide +kernel
theorem dX10_putsRepeat_17 : decode cX10_putsRepeat 17 = .ok (.iload_n 1, 1) := by decide +kernel
theorem dX10_putsRepeat_18 : decode cX10_putsRepeat 18 = .ok (.aload_n 2, 1) := by decide +kernel
theorem dX10_putsRepeat_19 : decode cX10_putsRepeat 19 = .ok (.iload 7, 2) := by decide +kernel
theorem dX10_putsRepeat_21 : decode cX10_putsRepeat 21 = .ok (.iaload, 1) := by decide +kernel
theorem dX10_putsRepeat_22 : decode cX10_putsRepeat 22 = .ok (.bipush 52, 2) := by decide +kernel
theorem dX10_putsRepeat_24 : decode cX10_putsRepeat 24 = .ok (.invokevirtual 200, 3) := by decide +kernel
theorem dX10_putsRepeat_27 : decode cX10_putsRepeat 27 = .ok (.iinc 7 1, 3) := by decide +kernel
theorem dX10_putsRepeat_30 : decode cX10_putsRepeat 30 = .ok (.goto (-21), 3) := by decide +kernel
theorem dX10_putsRepeat_76 : decode cX10_putsRepeat 76 = .ok (.iload 9, 2) := by decide +kernel
theorem dX10_putsRepeat_78 : decode cX10_putsRepeat 78 = .ok (.iload 6, 2) := by decide +kernel
theorem dX10_putsRepeat_80 : decode cX10_putsRepeat 80 = .ok (.if_icmp .ge 47, 3) := by decide +kernel
theorem dX10_putsRepeat_83 : decode cX10_putsRepeat 83 = .ok (.aload_n 0, 1) := by decide +kernel
theorem dX10_putsRepeat_84 : decode cX10_putsRepeat 84 = .ok (.bipush 51, 2) := by decide +kernel
theorem dX10_putsRepeat_86 : decode cX10_putsRepeat 86 = .ok (.invokevirtual 197, 3) := by decide +kernel
theorem dX10_putsRepeat_89 : decode cX10_putsRepeat 89 = .ok (.aload_n 0, 1) := by decide +kernel
theorem dX10_putsRepeat_90 : decode cX10_putsRepeat 90 = .ok (.bipush 50, 2) := by decide +kernel
theorem dX10_putsRepeat_92 : decode cX10_putsRepeat 92 = .ok (.iconst 0, 1) := by decide +kernel
theorem dX10_putsRepeat_93 : decode cX10_putsRepeat 93 = .ok (.iload_n 1, 1) := by decide +kernel
theorem dX10_putsRepeat_94 : decode cX10_putsRepeat 94 = .ok (.aload_n 2, 1) := by decide +kernel
theorem dX10_putsRepeat_95 : decode cX10_putsRepeat 95 = .ok (.iload 4, 2) := by decide +kernel
theorem dX10_putsRepeat_97 : decode cX10_putsRepeat 97 = .ok (.iload 9, 2) := by decide +kernel
theorem dX10_putsRepeat_99 : decode cX10_putsRepeat 99 = .ok (.iload 5, 2) := by decide +kernel
theorem dX10_putsRepeat_101 : decode cX10_putsRepeat 101 = .ok (.imul, 1) := by decide +kernel
theorem dX10_putsRepeat_102 : decode cX10_putsRepeat 102 = .ok (.iadd, 1) := by decide +kernel
theorem dX10_putsRepeat_103 : decode cX10_putsRepeat 103 = .ok (.iload 8, 2) := by decide +kernel
theorem dX10_putsRepeat_105 : decode cX10_putsRepeat 105 = .ok (.iadd, 1) := by decide +kernel
theorem dX10_putsRepeat_106 : decode cX10_putsRepeat 106 = .ok (.iaload, 1) := by decide +kernel
theorem dX10_putsRepeat_107 : decode cX10_putsRepeat 107 = .ok (.bipush 51, 2) := by decide +kernel
theorem dX10_putsRepeat_109 : decode cX10_putsRepeat 109 = .ok (.invokevirtual 215, 3) := by decide +kernel
theorem dX10_putsRepeat_112 : decode cX10_putsRepeat 112 = .ok (.pop, 1) := by decide +kernel
theorem dX10_putsRepeat_113 : decode cX10_putsRepeat 113 = .ok (.aload_n 0, 1) := by decide +kernel
theorem dX10_putsRepeat_114 : decode cX10_putsRepeat 114 = .ok (.bipush 51, 2) := by decide +kernel
theorem dX10_putsRepeat_116 : decode cX10_putsRepeat 116 = .ok (.bipush 50, 2) := by decide +kernel
theorem dX10_putsRepeat_118 : decode cX10_putsRepeat 118 = .ok (.invokevirtual 241, 3) := by decide +kernel
theorem dX10_putsRepeat_121 : decode cX10_putsRepeat 121 = .ok (.iinc 9 1, 3) := by decide +kernel
theorem dX10_putsRepeat_124 : decode cX10_putsRepeat 124 = .ok (.goto (-48), 3) := by decide +kernel
theorem rO_S : ∀ (m : Nat) (w : Rw) (z k : Nat) (v : Int) (l r : Rw), rdrop m w = Std.DTreeMap.Internal.Impl.inner z k v l r → rO w (m + 1) = rO w m + 1 + rN l
  | 0, w, z, k, v, l, r, h => by
    have h : w = Std.DTreeMap.Internal.Impl.inner z k v l r := h
    subst h
    show 1 + rN l + rO r 0 = 0 + 1 + rN l
    cases r <;> (show 1 + rN l + 0 = _; omega)
  | m + 1, .leaf, z, k, v, l, r, h => by
    have h : (Std.DTreeMap.Internal.Impl.leaf : Rw) = Std.DTreeMap.Internal.Impl.inner z k v l r := h
    cases h
  | m + 1, .inner z0 k0 v0 l0 r0, z, k, v, l, r, h => by
    have h9 := rO_S m r0 z k v l r h
    have e1 : rO (Std.DTreeMap.Internal.Impl.inner z0 k0 v0 l0 r0 : Rw) (m + 1 + 1) = 1 + rN l0 + rO r0 (m + 1) := rfl
    have e2 : rO (Std.DTreeMap.Internal.Impl.inner z0 k0 v0 l0 r0 : Rw) (m + 1) = 1 + rN l0 + rO r0 m := rfl
    rw [e1, e2, h9]; omega
/-- the fused copies are one item -/
theorem facc_one {w : Rw} {a n1 k n : Nat} (hal : ∀ e : Nat, 1 ≤ e → e < n → halk (rdrop (a + k) w) (rdrop (a + e * n1 + k) w)) (h0 : 0 < rI (rdrop (a + k) w)) : ∀ e : Nat, e < n → ∃ (k9 : Nat) (v9 : Int) (l9 : Rw), facc w a n1 k e = Std.DTreeMap.Internal.Impl.inner 0 k9 v9 l9 .leaf
  | 0, _ => by
    obtain ⟨z, k1, v, l, r, h⟩ := rI_pos h0
    exact ⟨k1, v, l, by rw [facc, h]; rfl⟩
  | e + 1, he => by
    obtain ⟨k1, v1, l1, h1⟩ := facc_one hal h0 e (by omega)
    have h2 := hal (e + 1) (by omega) he
    cases hx : rdrop (a + (e + 1) * n1 + k) w with
    | leaf => rw [hx] at h2; cases hy : rdrop (a + k) w <;> (rw [hy] at h2; exact h2.elim)
    | inner z k2 v2 l2 r =>
      refine ⟨fK k1 v1 k2 v2, fV k1 v1 k2 v2, rfus l1 l2, ?_⟩
      rw [facc, h1, hx]
      rfl
/-- an item copied behind what stands -/
theorem cpy_RA {μ u u8 : va_M} {f t i n z k : Nat} {v : Int} {l r x : Rw} (hR : RA μ f (Std.DTreeMap.Internal.Impl.inner z k v l r) i) (hc : cpy μ u f i t n (1 + rN l)) (ha : agr u u8 t n (n + 1 + rN l)) (hx : RA u8 t x (n + 1 + rN l)) : RA u8 t (Std.DTreeMap.Internal.Impl.inner z k v l x) n := by
  obtain ⟨r1, r2, r3, r4, r5⟩ := hR
  have c0 := hc 0 (by omega)
  have a0 := ha n (Nat.le_refl n) (by omega)
  rw [Nat.add_zero, Nat.add_zero] at c0
  refine ⟨a0.1.trans (c0.1.trans r1), a0.2.1.trans (c0.2.1.trans r2), a0.2.2.trans (c0.2.2.trans r3), RA_shift l _ _ r4 (fun d hd => ?_), hx⟩
  have c1 := hc (1 + d) (by omega)
  have a1 := ha (n + (1 + d)) (by omega) (by omega)
  rw [show n + 1 + d = n + (1 + d) by omega, show i + 1 + d = i + (1 + d) by omega]
  exact ⟨a1.1.trans c1.1, a1.2.1.trans c1.2.1, a1.2.2.trans c1.2.2⟩
theorem hd1_N (x : Rw) : rN (hd1 x) ≤ rN x := by
  cases x with
  | leaf => exact Nat.le_refl _
  | inner z k v l r =>
    have e : rN (Std.DTreeMap.Internal.Impl.leaf : Rw) = 0 := rfl
    rw [hd1, rN_in, rN_in, e]; omega
/-- one of the arrays of items' places -/
def rowQ (q : Nat) : Prop := (723 ≤ q ∧ q < 737) ∨ (738 ≤ q ∧ q < 752)
/-- the trees in which a repeat is made -/
def P5 (x y : Nat) : Prop := PT 50 x y ∨ PT 51 x y
set_option maxHeartbeats 40000000 in
set_option maxRecDepth 100000 in
theorem LX10_putsRepeat_9 {p : Program} {l : Launch} {e : Env} {R : Room} {s : State} {m : MethodId} {args : Array Value} {below : List Frame} {meth : Method} {c : Code} {cells slots : Nat} {Q : State → Prop} {dC : Nat → ClassId} {dI : Nat → Nat → Nat} {h0 : Nat} {cI cZ cII cIII : ClassId} (hx : p.tables.exec = Jvm.exec) (hb : c.code = cX10_putsRepeat) (hml : c.maxLocals = 10) (hown : s.vm.findClass RX10 = some m.cls) (hts : ∀ w ∈ wsG, w.before args s = true) (hK : va_K (dC, dI) vwCl (mT cI cZ cII cIII) s) (hRf : 24 ≤ R.frames) (hRl : 730 ≤ R.locals) (hRc : cells ≤ R.cells) (hRs : slots ≤ R.slots) (μ0 : va_M) (t : Int) (q : Nat) (m9 : Int) (a : Int) (n1 : Int) (n : Int) (w : Rw) (ht : 0 ≤ t ∧ t < 70) (hq : (723 ≤ q ∧ q < 737) ∨ (738 ≤ q ∧ q < 752)) (hR : RA μ0 t.toNat w 0) (hN : rN w ≤ 900) (hwf : rWF w) (hHH : rH w ≤ 20) (hrow : rowIs μ0 q w 0) (h260 : rI w ≤ 260) (ht3 : t ≠ 50 ∧ t ≠ 51 ∧ t ≠ 52) (ha : 0 ≤ a ∧ a ≤ rI w) (hexit33 : ∀ (k : Int) (μ : va_M) (H : Heap) (locs : List Loc) (ls : Array Slot), (fr (PT 52) μ0 μ) → (μ 719 52 = rO w a.toNat) → (∀ (u8 : va_M) (x : Rw), agr μ u8 52 0 (rO w a.toNat) → RA u8 52 x (rO w a.toNat) → RA u8 52 (rpre a.toNat w x) 0) → va_P (dC, dI) vwCl (fw (mE cI cZ cII cIII h0) h0 6325 μ) H → va_S (fA h0 6325 s.heap.size) s.heap H locs → lv_has ls 10 [(0, .ref h0), (1, .int (iZ (t))), (2, .ref (h0 + q)), (3, .int (iZ (m9))), (4, .int (iZ (a))), (5, .int (iZ (n1))), (6, .int (iZ (n)))] → W p l e R s m args below meth c H locs cells slots Q (F0 m 33 ls [])) :
    ∀ (n9 : Nat) (k : Int) (μ : va_M) (H : Heap) (locs : List Loc) (ls : Array Slot), (0 ≤ k ∧ k ≤ a) → (fr (PT 52) μ0 μ) → (μ 719 52 = rO w k.toNat) → (∀ (u8 : va_M) (x : Rw), agr μ u8 52 0 (rO w k.toNat) → RA u8 52 x (rO w k.toNat) → RA u8 52 (rpre k.toNat w x) 0) → (a - k).toNat < n9 → va_P (dC, dI) vwCl (fw (mE cI cZ cII cIII h0) h0 6325 μ) H → va_S (fA h0 6325 s.heap.size) s.heap H locs → lv_has ls 10 [(7, .int (iZ (k))), (0, .ref h0), (1, .int (iZ (t))), (2, .ref (h0 + q)), (3, .int (iZ (m9))), (4, .int (iZ (a))), (5, .int (iZ (n1))), (6, .int (iZ (n)))] → W p l e R s m args below meth c H locs cells slots Q (F0 m 9 ls []) := by
  intro n9
  induction n9 with
  | zero => intro k μ H locs ls hk hfr hN5 hc hm9 hP hS hl; exact absurd hm9 (Nat.not_lt_zero _)
  | succ n9 ih =>
    intro k μ H locs ls hk hfr hN5 hc hm9 hP hS hl
    refine lv_iload hx hb dX10_putsRepeat_9 (lv_at hl 0 rfl) ?_
    refine lv_iload hx hb dX10_putsRepeat_11 (lv_at hl 5 rfl) ?_
    refine fz_icmp_ge (tgt := 33) (by constructor <;> (first | ((try clear hq); (try clear hμx); omega) | omega)) (by constructor <;> (first | ((try clear hq); (try clear hμx); omega) | omega)) hx hb dX10_putsRepeat_13 (by decide) (fun c13_ => ?_) (fun c13_ => ?_)
    · exact hexit33 (k) μ H locs ls (by exact hfr) (by
                    obtain rfl : k = a := by (first | ((try clear hq); (try clear hμx); omega) | omega)
                    exact hN5) (by
                    obtain rfl : k = a := by (first | ((try clear hq); (try clear hμx); omega) | omega)
                    exact hc) hP hS (lv_sub hl [1, 2, 3, 4, 5, 6, 7] rfl)
    · have hIx := rdrop_I (k.toNat) w
      have hNx := rdrop_N (k.toNat) w
      have hHx := rdrop_H (k.toNat) w
      have hFx := rdrop_WF (k.toNat) w hwf
      have hRx := RA_drop (k.toNat) w 0 hR
      obtain ⟨zx, kx, vx, lx, wx, hex⟩ := rI_pos (w := rdrop (k.toNat) w) (by (first | ((try clear hq); (try clear hμx); omega) | omega))
      rw [hex] at hIx hNx hHx hFx hRx
      rw [rN_in] at hNx; rw [rI_in] at hIx; rw [rH_in] at hHx
      obtain ⟨rx1, rx2, rx3, rx4, rx5⟩ := hRx
      rw [Nat.zero_add] at rx1 rx2 rx3 rx4
      have fxA : iWF kx vx lx := ⟨hFx.1, hFx.2.1, hFx.2.2.1, hFx.2.2.2.1, hFx.2.2.2.2.1, hFx.2.2.2.2.2.1, hFx.2.2.2.2.2.2.1⟩
      have hrS := rO_S _ _ _ _ _ _ _ hex
      have hcell : ∀ x, μ (507 + t.toNat) x = μ0 (507 + t.toNat) x ∧ μ (578 + t.toNat) x = μ0 (578 + t.toNat) x ∧ μ (649 + t.toNat) x = μ0 (649 + t.toNat) x := fun x => ⟨hfr _ _ (by unfold PT; omega), hfr _ _ (by unfold PT; omega), hfr _ _ (by unfold PT; omega)⟩
      have hRx : RA μ t.toNat (Std.DTreeMap.Internal.Impl.inner zx kx vx lx wx) (rO w k.toNat) := RA_kept ⟨rx1, rx2, rx3, rx4, by rw [Nat.zero_add] at rx5; exact rx5⟩ (fun x _ _ => hcell x)
      refine lv_aload_n hx hb dX10_putsRepeat_16 rfl (lv_at hl 1 rfl) ?_
      refine lv_iload_n hx hb dX10_putsRepeat_17 rfl (lv_at hl 2 rfl) ?_
      refine lv_aload_n hx hb dX10_putsRepeat_18 rfl (lv_at hl 3 rfl) ?_
      refine lv_iload hx hb dX10_putsRepeat_19 (lv_at hl 0 rfl) ?_
      refine fz_ld (k := q) (n := 260) hx hb hK hP 0 (by (first | ((try clear hq); (try clear hμx); omega) | omega)) (mE_rowAny (by first | exact hq9 | exact hq)) rfl ⟨by (first | ((try clear hq); (try clear hμx); omega) | omega), by (first | ((try clear hq); (try clear hμx); omega) | omega)⟩ (by decide) dX10_putsRepeat_21 ?_
      rw [show μ q (k).toNat = (rO w k.toNat : Int) from (by rw [hfr _ _ (by unfold PT; omega), hrow _ (by (first | ((try clear hq); (try clear hμx); omega) | omega))]; omega)]
      refine lv_bipush (v := iZ 52) hx hb dX10_putsRepeat_22 rfl ?_
      refine va_callv (va_runV (As := [.int (iZ (t)), .int (iZ ((rO w k.toNat : Int))), .int (iZ (52))]) (rest := []) ⟨hx, hb, hml, hown, hts⟩ (m_copies l dC dI cI cZ cII cIII h0 H.size μ (t) ((rO w k.toNat : Int)) (52) (1 + (rN lx : Int)) (by first | assumption | ((try clear hq); (try clear hμx); omega) | omega | exact ⟨by (first | ((try clear hq); (try clear hμx); omega) | omega), by (first | ((try clear hq); (try clear hμx); omega) | omega)⟩) (by first | assumption | ((try clear hq); (try clear hμx); omega) | omega | exact ⟨by (first | ((try clear hq); (try clear hμx); omega) | omega), by (first | ((try clear hq); (try clear hμx); omega) | omega)⟩) (by (first | ((try clear hq); (try clear hμx); omega) | omega)) (by intro _; omega) (by intro _; show 0 ≤ μ 719 52 ∧ μ 719 52 + _ ≤ 900; omega) (by intro _; exact hRx.2.2.1)) (cwV 3 hts (gV_G k1412 k1414 ks_yX10_copies k13 k1415) rfl rfl rfl (by decide +kernel) ⟨by show 2 + 1 ≤ _; omega, by show 8 + (6 + 11) + (38) ≤ _; omega⟩) ⟨fun a U g mk q => by obtain ⟨q0, q1, qP, qK⟩ := q; exact ⟨q0, q1, qP, va_K.moved (u := U) (U := U.calling g mk a) (Vm.Alike.refl U.vm) qK⟩, va_recv hK hP (ci := 10) (q0 := 0) rfl ((fw_get (by decide)).trans (by rw [mE_obj]; rfl)), fun U hU hW => ⟨rfl, by rw [hU], by rw [hU]; exact hP, va_K.moved hW.alike hK⟩⟩ rfl rfl hl.1 rfl (lv_room (Nat.le_of_ble_eq_true rfl)) dX10_putsRepeat_24 ⟨hRc, hRs⟩) hS (fun q _ h => fA_le hS.1 q h) (fA_le hS.1) (fun u9 t9 H1 locs ht9 hvm9 hw9 hB9 hz9 hk9 hS => ?_)
      obtain ⟨hP, -⟩ := hB9
      rw [ht9] at hP
      generalize H1 = H at hP hS ⊢
      obtain ⟨μx, eμx⟩ : ∃ x : va_M, x = u9 := ⟨_, rfl⟩
      rw [← eμx] at hP hw9
      have hμx := hw9; clear hw9
      obtain ⟨c1, c2, c3⟩ := hμx.2 (by decide)
      have e52 : (52 : Int).toNat = 52 := rfl
      rw [e52] at c1 c2 c3
      have eN : (μ 719 52).toNat = rO w k.toNat := by (first | ((try clear hq); (try clear hμx); omega) | omega)
      rw [eN] at c1 c3
      have c3 : cpy μ μx t.toNat (rO w k.toNat) 52 (rO w k.toNat) (1 + rN lx) := by have := c3; rw [show (rO w k.toNat : Int).toNat = rO w k.toNat from rfl, show (1 + (rN lx : Int)).toNat = 1 + rN lx by (first | ((try clear hq); (try clear hμx); omega) | omega)] at this; exact this
      refine lv_iinc (v := iZ (k + 1)) (lv' := [(7, .int (iZ (k + 1))), (0, .ref h0), (1, .int (iZ (t))), (2, .ref (h0 + q)), (3, .int (iZ (m9))), (4, .int (iZ (a))), (5, .int (iZ (n1))), (6, .int (iZ (n)))]) hx hb dX10_putsRepeat_27 hl (k := 0) rfl (iZ_add _ _) (by decide) rfl (fun ls hl => ?_)
      refine lv_goto (tgt := 9) hx hb dX10_putsRepeat_30 (by decide) ?_
      exact ih (k + 1) μx H locs ls (by (first | ((try clear hq); (try clear hμx); omega) | omega)) (by exact fr_trans hfr (fr_mono c1 (fun _ _ h => PG_PT h))) (by rw [show (k + 1).toNat = k.toNat + 1 by (first | ((try clear hq); (try clear hμx); omega) | omega), hrS]; omega) (by
                    rw [show (k + 1).toNat = k.toNat + 1 by (first | ((try clear hq); (try clear hμx); omega) | omega), hrS]
                    intro u8 x ha8 hx8
                    rw [rpre_S _ _ _ _ _ _ _ _ hex]
                    refine hc u8 _ (fun y hy1 hy2 => ?_) (cpy_RA hRx c3 (fun y hy1 hy2 => ha8 y (by (first | ((try clear hq); (try clear hμx); omega) | omega)) (by (first | ((try clear hq); (try clear hμx); omega) | omega))) hx8)
                    have h7 := ha8 y (by (first | ((try clear hq); (try clear hμx); omega) | omega)) (by (first | ((try clear hq); (try clear hμx); omega) | omega))
                    rw [h7.1, h7.2.1, h7.2.2]
                    exact ⟨c1 _ _ (by unfold PG; omega), c1 _ _ (by unfold PG; omega), c1 _ _ (by unfold PG; omega)⟩) (by (first | ((try clear hq); (try clear hμx); omega) | omega)) hP hS (lv_sub hl [0, 1, 2, 3, 4, 5, 6, 7] rfl)
set_option maxHeartbeats 40000000 in
set_option maxRecDepth 100000 in
theorem LX10_putsRepeat_76 {p : Program} {l : Launch} {e : Env} {R : Room} {s : State} {m : MethodId} {args : Array Value} {below : List Frame} {meth : Method} {c : Code} {cells slots : Nat} {Q : State → Prop} {dC : Nat → ClassId} {dI : Nat → Nat → Nat} {h0 : Nat} {cI cZ cII cIII : ClassId} (hx : p.tables.exec = Jvm.exec) (hb : c.code = cX10_putsRepeat) (hml : c.maxLocals = 10) (hown : s.vm.findClass RX10 = some m.cls) (hts : ∀ w ∈ wsG, w.before args s = true) (hK : va_K (dC, dI) vwCl (mT cI cZ cII cIII) s) (hRf : 24 ≤ R.frames) (hRl : 730 ≤ R.locals) (hRc : cells ≤ R.cells) (hRs : slots ≤ R.slots) (μ0 : va_M) (k : Int) (y1 : Int) (t : Int) (q : Nat) (m9 : Int) (a : Int) (n1 : Int) (n : Int) (w : Rw) (ht : 0 ≤ t ∧ t < 70) (hq : (723 ≤ q ∧ q < 737) ∨ (738 ≤ q ∧ q < 752)) (hR : RA μ0 t.toNat w 0) (hN : rN w ≤ 900) (hwf : rWF w) (hHH : rH w ≤ 20) (hrow : rowIs μ0 q w 0) (h260 : rI w ≤ 260) (ht3 : t ≠ 50 ∧ t ≠ 51 ∧ t ≠ 52) (hal : ∀ e m : Nat, 1 ≤ e → e < n.toNat → m < n1.toNat → halk (rdrop (a.toNat + m) w) (rdrop (a.toNat + e * n1.toNat + m) w)) (hbd : 0 ≤ a ∧ 1 ≤ n1 ∧ 2 ≤ n ∧ a + n * n1 ≤ rI w) (hk : 0 ≤ k ∧ k < n1) (hexit127 : ∀ (j : Int) (μ : va_M) (H : Heap) (locs : List Loc) (ls : Array Slot), (fr P5 μ0 μ) → (TR μ 50 (facc w a.toNat n1.toNat k.toNat (n.toNat - 1))) → va_P (dC, dI) vwCl (fw (mE cI cZ cII cIII h0) h0 6325 μ) H → va_S (fA h0 6325 s.heap.size) s.heap H locs → lv_has ls 10 [(8, .int (iZ (k))), (7, .int (iZ (y1))), (0, .ref h0), (1, .int (iZ (t))), (2, .ref (h0 + q)), (3, .int (iZ (m9))), (4, .int (iZ (a))), (5, .int (iZ (n1))), (6, .int (iZ (n)))] → W p l e R s m args below meth c H locs cells slots Q (F0 m 127 ls [])) :
    ∀ (n9 : Nat) (j : Int) (μ : va_M) (H : Heap) (locs : List Loc) (ls : Array Slot), (1 ≤ j ∧ j ≤ n) → (fr P5 μ0 μ) → (TR μ 50 (facc w a.toNat n1.toNat k.toNat (j.toNat - 1))) → (n - j).toNat < n9 → va_P (dC, dI) vwCl (fw (mE cI cZ cII cIII h0) h0 6325 μ) H → va_S (fA h0 6325 s.heap.size) s.heap H locs → lv_has ls 10 [(9, .int (iZ (j))), (8, .int (iZ (k))), (7, .int (iZ (y1))), (0, .ref h0), (1, .int (iZ (t))), (2, .ref (h0 + q)), (3, .int (iZ (m9))), (4, .int (iZ (a))), (5, .int (iZ (n1))), (6, .int (iZ (n)))] → W p l e R s m args below meth c H locs cells slots Q (F0 m 76 ls []) := by
  intro n9
  induction n9 with
  | zero => intro j μ H locs ls he hfr hT hm9 hP hS hl; exact absurd hm9 (Nat.not_lt_zero _)
  | succ n9 ih =>
    intro j μ H locs ls he hfr hT hm9 hP hS hl
    have hnn : n * 1 ≤ n * n1 := Int.mul_le_mul_of_nonneg_left (by (first | ((try clear hq); (try clear hμa); (try clear hμb); (try clear hμc); omega) | omega)) (by (first | ((try clear hq); (try clear hμa); (try clear hμb); (try clear hμc); omega) | omega))
    rw [Int.mul_one] at hnn
    have hqq : 723 ≤ q ∧ q < 752 := by (first | ((try clear hq); (try clear hμa); (try clear hμb); (try clear hμc); omega) | omega)
    have hq9 : rowQ q := hq
    clear hq
    have hbq : 0 ≤ a ∧ 1 ≤ n1 ∧ 2 ≤ n ∧ n ≤ 260 ∧ a ≤ 260 ∧ n1 ≤ 260 := by
      have h8 : 1 * n1 ≤ n * n1 := Int.mul_le_mul_of_nonneg_right (by (first | ((try clear hq); (try clear hμa); (try clear hμb); (try clear hμc); omega) | omega)) (by (first | ((try clear hq); (try clear hμa); (try clear hμb); (try clear hμc); omega) | omega))
      rw [Int.one_mul] at h8
      omega
    refine lv_iload hx hb dX10_putsRepeat_76 (lv_at hl 0 rfl) ?_
    refine lv_iload hx hb dX10_putsRepeat_78 (lv_at hl 9 rfl) ?_
    refine fz_icmp_ge (tgt := 127) (by constructor <;> (first | ((try clear hq); (try clear hμa); (try clear hμb); (try clear hμc); omega) | omega)) (by constructor <;> (first | ((try clear hq); (try clear hμa); (try clear hμb); (try clear hμc); omega) | omega)) hx hb dX10_putsRepeat_80 (by decide) (fun c80_ => ?_) (fun c80_ => ?_)
    · exact hexit127 (j) μ H locs ls (by exact hfr) (by
                    obtain rfl : j = n := by (first | ((try clear hq); (try clear hμa); (try clear hμb); (try clear hμc); omega) | omega)
                    exact hT) hP hS (lv_sub hl [1, 2, 3, 4, 5, 6, 7, 8, 9] rfl)
    · obtain ⟨ix, hix, hixz, hixl, hixp⟩ : ∃ ix : Nat, ix = a.toNat + j.toNat * n1.toNat + k.toNat ∧ ((a + (j * n1)) + k).toNat = ix ∧ ix < rI w ∧ 0 ≤ (a + (j * n1)) + k := by
        have hp : j * n1 = ((j.toNat * n1.toNat : Nat) : Int) := by rw [Int.natCast_mul, Int.toNat_of_nonneg (by (first | ((try clear hq); (try clear hμa); (try clear hμb); (try clear hμc); omega) | omega)), Int.toNat_of_nonneg (by (first | ((try clear hq); (try clear hμa); (try clear hμb); (try clear hμc); omega) | omega))]
        have hle : (j + 1) * n1 ≤ n * n1 := Int.mul_le_mul_of_nonneg_right (by (first | ((try clear hq); (try clear hμa); (try clear hμb); (try clear hμc); omega) | omega)) (by (first | ((try clear hq); (try clear hμa); (try clear hμb); (try clear hμc); omega) | omega))
        rw [Int.add_mul, Int.one_mul] at hle
        exact ⟨_, rfl, by (first | ((try clear hq); (try clear hμa); (try clear hμb); (try clear hμc); omega) | omega), by (first | ((try clear hq); (try clear hμa); (try clear hμb); (try clear hμc); omega) | omega), by (first | ((try clear hq); (try clear hμa); (try clear hμb); (try clear hμc); omega) | omega)⟩
      have hak : a.toNat + k.toNat < rI w := by
        have h8 : 1 * n1 ≤ n * n1 := Int.mul_le_mul_of_nonneg_right (by (first | ((try clear hq); (try clear hμa); (try clear hμb); (try clear hμc); omega) | omega)) (by (first | ((try clear hq); (try clear hμa); (try clear hμb); (try clear hμc); omega) | omega))
        rw [Int.one_mul] at h8
        omega
      clear hnn hbd
      have hIx := rdrop_I (ix) w
      have hNx := rdrop_N (ix) w
      have hHx := rdrop_H (ix) w
      have hFx := rdrop_WF (ix) w hwf
      have hRx := RA_drop (ix) w 0 hR
      obtain ⟨zx, kx, vx, lx, wx, hex⟩ := rI_pos (w := rdrop (ix) w) (by (first | ((try clear hq); (try clear hμa); (try clear hμb); (try clear hμc); omega) | omega))
      rw [hex] at hIx hNx hHx hFx hRx
      rw [rN_in] at hNx; rw [rI_in] at hIx; rw [rH_in] at hHx
      obtain ⟨rx1, rx2, rx3, rx4, rx5⟩ := hRx
      rw [Nat.zero_add] at rx1 rx2 rx3 rx4
      have fxA : iWF kx vx lx := ⟨hFx.1, hFx.2.1, hFx.2.2.1, hFx.2.2.2.1, hFx.2.2.2.2.1, hFx.2.2.2.2.2.1, hFx.2.2.2.2.2.2.1⟩
      have hI0 := rdrop_I (a.toNat + k.toNat) w
      have hN0 := rdrop_N (a.toNat + k.toNat) w
      have hH0 := rdrop_H (a.toNat + k.toNat) w
      have hal9 : ∀ e9 : Nat, 1 ≤ e9 → e9 < n.toNat → halk (rdrop (a.toNat + k.toNat) w) (rdrop (a.toNat + e9 * n1.toNat + k.toNat) w) := fun e9 h1 h2 => hal e9 k.toNat h1 h2 (by (first | ((try clear hq); (try clear hμa); (try clear hμb); (try clear hμc); omega) | omega))
      obtain ⟨kf, vf, lf, hfa⟩ := facc_one (n := n.toNat) hal9 (by (first | ((try clear hq); (try clear hμa); (try clear hμb); (try clear hμc); omega) | omega)) (j.toNat - 1) (by (first | ((try clear hq); (try clear hμa); (try clear hμb); (try clear hμc); omega) | omega))
      obtain ⟨s1, s2, s3, s4⟩ := facc_ok (n := n.toNat) hwf hal9 (j.toNat - 1) (by (first | ((try clear hq); (try clear hμa); (try clear hμb); (try clear hμc); omega) | omega))
      have s5 := s1 _ (halk_hd (hal9 j.toNat (by (first | ((try clear hq); (try clear hμa); (try clear hμb); (try clear hμc); omega) | omega)) (by (first | ((try clear hq); (try clear hμa); (try clear hμb); (try clear hμc); omega) | omega))))
      rw [hfa] at s2 s3 s4 s5; rw [← hix, hex] at s5
      have s6 : ialk kf vf lf kx vx lx := s5.1
      rw [rN_in] at s3; rw [rH_in] at s4
      have s7 := hd1_N (rdrop (a.toNat + k.toNat) w)
      have s8 := hd1_H (x := rdrop (a.toNat + k.toNat) w)
      have sA : iWF kf vf lf := ⟨s2.1, s2.2.1, s2.2.2.1, s2.2.2.2.1, s2.2.2.2.2.1, s2.2.2.2.2.2.1, s2.2.2.2.2.2.2.1⟩
      have hl8 : rN (rfus lf lx) = rN lf := by
        rcases s6 with ⟨g1, _⟩ | ⟨_, _, _, g4⟩
        · unfold isTx at g1
          obtain rfl := sA.2.1 (by (first | ((try clear hq); (try clear hμa); (try clear hμb); (try clear hμc); omega) | omega))
          cases lx <;> rfl
        · exact rfus_N _ _ sA.2.2.2.2.2.2 fxA.2.2.2.2.2.2 g4
      refine lv_aload_n hx hb dX10_putsRepeat_83 rfl (lv_at hl 3 rfl) ?_
      refine lv_bipush (v := iZ 51) hx hb dX10_putsRepeat_84 rfl ?_
      refine va_callv (va_runV (As := [.int (iZ (51))]) (rest := []) ⟨hx, hb, hml, hown, hts⟩ (m_empties l dC dI cI cZ cII cIII h0 H.size μ (51) (by first | assumption | ((try clear hq); (try clear hμa); (try clear hμb); (try clear hμc); omega) | omega | exact ⟨by (first | ((try clear hq); (try clear hμa); (try clear hμb); (try clear hμc); omega) | omega), by (first | ((try clear hq); (try clear hμa); (try clear hμb); (try clear hμc); omega) | omega)⟩)) (cwV 1 hts (gV_G k1373 k1375 ks_yX10_empties k13 k1376) rfl rfl rfl (by decide +kernel) ⟨by show 1 + 1 ≤ _; omega, by show 8 + (2 + 11) + (14) ≤ _; omega⟩) ⟨fun a U g mk q => by obtain ⟨q0, q1, qP, qK⟩ := q; exact ⟨q0, q1, qP, va_K.moved (u := U) (U := U.calling g mk a) (Vm.Alike.refl U.vm) qK⟩, va_recv hK hP (ci := 10) (q0 := 0) rfl ((fw_get (by decide)).trans (by rw [mE_obj]; rfl)), fun U hU hW => ⟨rfl, by rw [hU], by rw [hU]; exact hP, va_K.moved hW.alike hK⟩⟩ rfl rfl hl.1 rfl (lv_room (Nat.le_of_ble_eq_true rfl)) dX10_putsRepeat_86 ⟨hRc, hRs⟩) hS (fun q _ h => fA_le hS.1 q h) (fA_le hS.1) (fun u9 t9 H1 locs ht9 hvm9 hw9 hB9 hz9 hk9 hS => ?_)
      obtain ⟨hP, -⟩ := hB9
      rw [ht9] at hP
      generalize H1 = H at hP hS ⊢
      obtain ⟨μa, eμa⟩ : ∃ x : va_M, x = u9 := ⟨_, rfl⟩
      rw [← eμa] at hP hw9
      have hμa := hw9; clear hw9
      rw [show (51 : Int).toNat = 51 from rfl] at hμa
      have fa : fr P5 μ0 μa := by rw [hμa]; exact fr_uz hfr (Or.inr (by unfold PT; omega))
      have h51 : μa 719 51 = 0 := by rw [hμa, uz_s]
      have hTa : TR μa 50 (facc w a.toNat n1.toNat k.toNat (j.toNat - 1)) := TR_fr hT (P := PT 51) (by rw [hμa]; exact fr_uz fr_rfl (by unfold PT; omega)) (fun x => by unfold PT; omega) (by unfold PT; omega)
      have hIA : IA μa 50 0 kf vf lf := by have h9 := hTa.2; rw [hfa] at h9; exact ⟨h9.1, h9.2.1, h9.2.2.1, h9.2.2.2.1⟩
      have hca : ∀ x, μa (507 + t.toNat) x = μ0 (507 + t.toNat) x ∧ μa (578 + t.toNat) x = μ0 (578 + t.toNat) x ∧ μa (649 + t.toNat) x = μ0 (649 + t.toNat) x := fun x => ⟨fa _ x (by unfold P5 PT; omega), fa _ x (by unfold P5 PT; omega), fa _ x (by unfold P5 PT; omega)⟩
      have hIx : IA μa t.toNat (rO w ix) kx vx lx := by
        refine ⟨?_, ?_, ?_, RA_kept rx4 (fun x _ _ => hca x)⟩
        · rw [(hca _).1]; exact rx1
        · rw [(hca _).2.1]; exact rx2
        · rw [(hca _).2.2]; exact rx3
      refine lv_aload_n hx hb dX10_putsRepeat_89 rfl (lv_at hl 3 rfl) ?_
      refine lv_bipush (v := iZ 50) hx hb dX10_putsRepeat_90 rfl ?_
      refine lv_iconst (v := iZ 0) hx hb dX10_putsRepeat_92 rfl ?_
      refine lv_iload_n hx hb dX10_putsRepeat_93 rfl (lv_at hl 4 rfl) ?_
      refine lv_aload_n hx hb dX10_putsRepeat_94 rfl (lv_at hl 5 rfl) ?_
      refine lv_iload hx hb dX10_putsRepeat_95 (lv_at hl 7 rfl) ?_
      refine lv_iload hx hb dX10_putsRepeat_97 (lv_at hl 0 rfl) ?_
      refine lv_iload hx hb dX10_putsRepeat_99 (lv_at hl 8 rfl) ?_
      refine lv_imul hx hb dX10_putsRepeat_101 ?_
      refine lv_topi (fun x9 ex9 => ?_)
      obtain rfl : x9 = iZ (j * n1) := ex9.trans (iZ_mul _ _)
      refine lv_iadd hx hb dX10_putsRepeat_102 ?_
      refine lv_topi (fun x9 ex9 => ?_)
      obtain rfl : x9 = iZ (a + (j * n1)) := ex9.trans (iZ_add _ _)
      refine lv_iload hx hb dX10_putsRepeat_103 (lv_at hl 1 rfl) ?_
      refine lv_iadd hx hb dX10_putsRepeat_105 ?_
      refine lv_topi (fun x9 ex9 => ?_)
      obtain rfl : x9 = iZ ((a + (j * n1)) + k) := ex9.trans (iZ_add _ _)
      refine fz_ld (k := q) (n := 260) hx hb hK hP 0 (by (first | ((try clear hq); (try clear hμa); (try clear hμb); (try clear hμc); omega) | omega)) (mE_rowAny (by first | exact hq9 | exact hq)) rfl ⟨by (first | ((try clear hq); (try clear hμa); (try clear hμb); (try clear hμc); omega) | omega), by (first | ((try clear hq); (try clear hμa); (try clear hμb); (try clear hμc); omega) | omega)⟩ (by decide) dX10_putsRepeat_106 ?_
      rw [show μa q ((a + (j * n1)) + k).toNat = (rO w ix : Int) from (by rw [hixz, fa _ _ (by unfold P5 PT; omega), hrow _ hixl]; omega)]
      refine lv_bipush (v := iZ 51) hx hb dX10_putsRepeat_107 rfl ?_
      refine va_calli (va_runV (As := [.int (iZ (50)), .int (iZ (0)), .int (iZ (t)), .int (iZ ((rO w ix : Int))), .int (iZ (51))]) (rest := []) ⟨hx, hb, hml, hown, hts⟩ (m_fuses l dC dI cI cZ cII cIII h0 (20) H.size μa (50) (0) (t) ((rO w ix : Int)) (51) (kf) (vf) (lf) (kx) (vx) (lx) (by decide) (by first | assumption | ((try clear hq); (try clear hμa); (try clear hμb); (try clear hμc); omega) | omega | exact ⟨by (first | ((try clear hq); (try clear hμa); (try clear hμb); (try clear hμc); omega) | omega), by (first | ((try clear hq); (try clear hμa); (try clear hμb); (try clear hμc); omega) | omega)⟩) (by (first | ((try clear hq); (try clear hμa); (try clear hμb); (try clear hμc); omega) | omega)) (by intro _; show 0 ≤ μa 719 51 ∧ μa 719 51 + 1 + _ ≤ 900; omega) (by (first | ((try clear hq); (try clear hμa); (try clear hμb); (try clear hμc); omega) | omega)) (by (first | ((try clear hq); (try clear hμa); (try clear hμb); (try clear hμc); omega) | omega)) (by exact hIA) (by exact hIx) (by exact sA) (by exact fxA) (by exact s6) (by (first | ((try clear hq); (try clear hμa); (try clear hμb); (try clear hμc); omega) | omega))) (cwV 5 hts (gV_G k1416 k1418 ks_yX10_fuses k13 k1419) rfl rfl rfl (by decide +kernel) ⟨by show 23 + 1 ≤ _; omega, by show 8 + (11 + 11) + (700) ≤ _; omega⟩) ⟨fun a U g mk q => by obtain ⟨q0, q1, qP, qK⟩ := q; exact ⟨q0, q1, qP, va_K.moved (u := U) (U := U.calling g mk a) (Vm.Alike.refl U.vm) qK⟩, va_recv hK hP (ci := 10) (q0 := 0) rfl ((fw_get (by decide)).trans (by rw [mE_obj]; rfl)), fun U hU hW => ⟨rfl, by rw [hU], by rw [hU]; exact hP, va_K.moved hW.alike hK⟩⟩ rfl rfl hl.1 rfl (lv_room (Nat.le_of_ble_eq_true rfl)) dX10_putsRepeat_109 ⟨hRc, hRs⟩) hS (fun q _ h => fA_le hS.1 q h) (fA_le hS.1) (fun r9 u9 t9 H1 locs ht9 hvm9 hw9 hB9 hz9 hk9 hS => ?_)
      obtain ⟨μb, r1⟩ := u9
      obtain ⟨hP, -⟩ := hB9
      rw [ht9] at hP
      generalize H1 = H at hP hS ⊢
      obtain ⟨e9, hw9⟩ := hw9
      have e9 : r9 = iZ r1 := e9
      subst e9
      simp only at hP hw9
      have hμb := hw9; clear hw9
      obtain ⟨c1, c2, c3⟩ := hμb.2.1 (by decide)
      have e51 : (51 : Int).toNat = 51 := rfl
      rw [e51] at c1 c2 c3
      rw [h51] at c1 c2 c3
      have fb : fr P5 μ0 μb := fr_trans fa (fr_mono c1 (fun _ _ h => Or.inr (PG_PT h)))
      have hfe : facc w a.toNat n1.toNat k.toNat j.toNat = Std.DTreeMap.Internal.Impl.inner 0 (fK kf vf kx vx) (fV kf vf kx vx) (rfus lf lx) .leaf := by
        have e9 : j.toNat = (j.toNat - 1) + 1 := by (first | ((try clear hq); (try clear hμa); (try clear hμb); (try clear hμc); omega) | omega)
        rw [e9, facc, ← e9, hfa, ← hix, hex]
        rfl
      have hTb : TR μb 51 (facc w a.toNat n1.toNat k.toNat j.toNat) := by
        rw [hfe]
        have hz : rN (Std.DTreeMap.Internal.Impl.leaf : Rw) = 0 := rfl
        exact ⟨by rw [rN_in, hz]; omega, c3.1, c3.2.1, c3.2.2.1, c3.2.2.2, trivial⟩
      have hNb : rN (facc w a.toNat n1.toNat k.toNat j.toNat) ≤ 900 := by rw [hfe, rN_in, show rN (Std.DTreeMap.Internal.Impl.leaf : Rw) = 0 from rfl]; omega
      refine lv_pop hx hb dX10_putsRepeat_112 rfl ?_
      refine lv_aload_n hx hb dX10_putsRepeat_113 rfl (lv_at hl 3 rfl) ?_
      refine lv_bipush (v := iZ 51) hx hb dX10_putsRepeat_114 rfl ?_
      refine lv_bipush (v := iZ 50) hx hb dX10_putsRepeat_116 rfl ?_
      refine va_callv (va_runV (As := [.int (iZ (51)), .int (iZ (50))]) (rest := []) ⟨hx, hb, hml, hown, hts⟩ (m_copiesAll l dC dI cI cZ cII cIII h0 H.size μb (51) (50) (facc w a.toNat n1.toNat k.toNat j.toNat) (by decide) (by decide) (by decide) (by exact hTb) (by exact hNb)) (cwV 2 hts (gV_G k1424 k1426 ks_yX10_copiesAll k13 k1427) rfl rfl rfl (by decide +kernel) ⟨by show 3 + 1 ≤ _; omega, by show 8 + (4 + 11) + (63) ≤ _; omega⟩) ⟨fun a U g mk q => by obtain ⟨q0, q1, qP, qK⟩ := q; exact ⟨q0, q1, qP, va_K.moved (u := U) (U := U.calling g mk a) (Vm.Alike.refl U.vm) qK⟩, va_recv hK hP (ci := 10) (q0 := 0) rfl ((fw_get (by decide)).trans (by rw [mE_obj]; rfl)), fun U hU hW => ⟨rfl, by rw [hU], by rw [hU]; exact hP, va_K.moved hW.alike hK⟩⟩ rfl rfl hl.1 rfl (lv_room (Nat.le_of_ble_eq_true rfl)) dX10_putsRepeat_118 ⟨hRc, hRs⟩) hS (fun q _ h => fA_le hS.1 q h) (fA_le hS.1) (fun u9 t9 H1 locs ht9 hvm9 hw9 hB9 hz9 hk9 hS => ?_)
      obtain ⟨hP, -⟩ := hB9
      rw [ht9] at hP
      generalize H1 = H at hP hS ⊢
      obtain ⟨μc, eμc⟩ : ∃ x : va_M, x = u9 := ⟨_, rfl⟩
      rw [← eμc] at hP hw9
      have hμc := hw9; clear hw9
      refine lv_iinc (v := iZ (j + 1)) (lv' := [(9, .int (iZ (j + 1))), (8, .int (iZ (k))), (7, .int (iZ (y1))), (0, .ref h0), (1, .int (iZ (t))), (2, .ref (h0 + q)), (3, .int (iZ (m9))), (4, .int (iZ (a))), (5, .int (iZ (n1))), (6, .int (iZ (n)))]) hx hb dX10_putsRepeat_121 hl (k := 0) rfl (iZ_add _ _) (by decide) rfl (fun ls hl => ?_)
      refine lv_goto (tgt := 76) hx hb dX10_putsRepeat_124 (by decide) ?_
      exact ih (j + 1) μc H locs ls (by (first | ((try clear hq); (try clear hμa); (try clear hμb); (try clear hμc); omega) | omega)) (by exact fr_trans fb (fr_mono hμc.2 (fun _ _ h => Or.inl h))) (by rw [show (j + 1).toNat - 1 = j.toNat by (first | ((try clear hq); (try clear hμa); (try clear hμb); (try clear hμc); omega) | omega)]; exact hμc.1) (by (first | ((try clear hq); (try clear hμa); (try clear hμb); (try clear hμc); omega) | omega)) hP hS (lv_sub hl [0, 1, 2, 3, 4, 5, 6, 7, 8, 9] rfl)

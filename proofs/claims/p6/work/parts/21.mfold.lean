theorem dX10_areRowsAlike_0 : decode cX10_areRowsAlike 0 = .ok (.iconst 0, 1) := by decide +kernel
theorem dX10_areRowsAlike_1 : decode cX10_areRowsAlike 1 = .ok (.istore 6, 2) := by decide +kernel
theorem dX10_areRowsAlike_3 : decode cX10_areRowsAlike 3 = .ok (.iload 6, 2) := by decide +kernel
theorem dX10_areRowsAlike_5 : decode cX10_areRowsAlike 5 = .ok (.iload 5, 2) := by decide +kernel
theorem dX10_areRowsAlike_7 : decode cX10_areRowsAlike 7 = .ok (.if_icmp .ge 33, 3) := by decide +kernel
theorem dX10_areRowsAlike_10 : decode cX10_areRowsAlike 10 = .ok (.aload_n 0, 1) := by decide +kernel
theorem dX10_areRowsAlike_11 : decode cX10_areRowsAlike 11 = .ok (.iload_n 1, 1) := by decide +kernel
theorem dX10_areRowsAlike_12 : decode cX10_areRowsAlike 12 = .ok (.aload_n 2, 1) := by decide +kernel
theorem dX10_areRowsAlike_13 : decode cX10_areRowsAlike 13 = .ok (.iload_n 3, 1) := by decide +kernel
theorem dX10_areRowsAlike_14 : decode cX10_areRowsAlike 14 = .ok (.iload 6, 2) := by decide +kernel
theorem dX10_areRowsAlike_16 : decode cX10_areRowsAlike 16 = .ok (.iadd, 1) := by decide +kernel
theorem dX10_areRowsAlike_17 : decode cX10_areRowsAlike 17 = .ok (.iaload, 1) := by decide +kernel
theorem dX10_areRowsAlike_18 : decode cX10_areRowsAlike 18 = .ok (.iload_n 1, 1) := by decide +kernel
theorem dX10_areRowsAlike_19 : decode cX10_areRowsAlike 19 = .ok (.aload_n 2, 1) := by decide +kernel
theorem dX10_areRowsAlike_20 : decode cX10_areRowsAlike 20 = .ok (.iload 4, 2) := by decide +kernel
theorem dX10_areRowsAlike_22 : decode cX10_areRowsAlike 22 = .ok (.iload 6, 2) := by decide +kernel
theorem dX10_areRowsAlike_24 : decode cX10_areRowsAlike 24 = .ok (.iadd, 1) := by decide +kernel
theorem dX10_areRowsAlike_25 : decode cX10_areRowsAlike 25 = .ok (.iaload, 1) := by decide +kernel
theorem dX10_areRowsAlike_26 : decode cX10_areRowsAlike 26 = .ok (.invokevirtual 211, 3) := by decide +kernel
theorem dX10_areRowsAlike_29 : decode cX10_areRowsAlike 29 = .ok (.ifCond .ne 5, 3) := by decide +kernel
theorem dX10_areRowsAlike_32 : decode cX10_areRowsAlike 32 = .ok (.iconst 0, 1) := by decide +kernel
theorem dX10_areRowsAlike_33 : decode cX10_areRowsAlike 33 = .ok (.ireturn, 1) := by decide +kernel
theorem dX10_areRowsAlike_34 : decode cX10_areRowsAlike 34 = .ok (.iinc 6 1, 3) := by decide +kernel
theorem dX10_areRowsAlike_37 : decode cX10_areRowsAlike 37 = .ok (.goto (-34), 3) := by decide +kernel
theorem dX10_areRowsAlike_40 : decode cX10_areRowsAlike 40 = .ok (.iconst 1, 1) := by decide +kernel
theorem dX10_areRowsAlike_41 : decode cX10_areRowsAlike 41 = .ok (.ireturn, 1) := by decide +kernel
theorem dX10_hasFirm_0 : decode cX10_hasFirm 0 = .ok (.iconst 0, 1) := by decide +kernel
theorem dX10_hasFirm_1 : decode cX10_hasFirm 1 = .ok (.istore 5, 2) := by decide +kernel
theorem dX10_hasFirm_3 : decode cX10_hasFirm 3 = .ok (.iload 5, 2) := by decide +kernel
theorem dX10_hasFirm_5 : decode cX10_hasFirm 5 = .ok (.iload 4, 2) := by decide +kernel
theorem dX10_hasFirm_7 : decode cX10_hasFirm 7 = .ok (.if_icmp .ge 44, 3) := by decide +kernel
theorem dX10_hasFirm_10 : decode cX10_hasFirm 10 = .ok (.aload_n 0, 1) := by decide +kernel
theorem dX10_hasFirm_11 : decode cX10_hasFirm 11 = .ok (.getfield 45, 3) := by decide +kernel
theorem dX10_hasFirm_14 : decode cX10_hasFirm 14 = .ok (.iload_n 1, 1) := by decide +kernel
theorem dX10_hasFirm_15 : decode cX10_hasFirm 15 = .ok (.aaload, 1) := by decide +kernel
theorem dX10_hasFirm_16 : decode cX10_hasFirm 16 = .ok (.aload_n 2, 1) := by decide +kernel
theorem dX10_hasFirm_17 : decode cX10_hasFirm 17 = .ok (.iload_n 3, 1) := by decide +kernel
theorem dX10_hasFirm_18 : decode cX10_hasFirm 18 = .ok (.iload 5, 2) := by decide +kernel
theorem dX10_hasFirm_20 : decode cX10_hasFirm 20 = .ok (.iadd, 1) := by decide +kernel
theorem dX10_hasFirm_21 : decode cX10_hasFirm 21 = .ok (.iaload, 1) := by decide +kernel
theorem dX10_hasFirm_22 : decode cX10_hasFirm 22 = .ok (.iaload, 1) := by decide +kernel
theorem dX10_hasFirm_23 : decode cX10_hasFirm 23 = .ok (.ifCond .eq 20, 3) := by decide +kernel
theorem dX10_hasFirm_26 : decode cX10_hasFirm 26 = .ok (.aload_n 0, 1) := by decide +kernel
theorem dX10_hasFirm_27 : decode cX10_hasFirm 27 = .ok (.getfield 45, 3) := by decide +kernel
theorem dX10_hasFirm_30 : decode cX10_hasFirm 30 = .ok (.iload_n 1, 1) := by decide +kernel
theorem dX10_hasFirm_31 : decode cX10_hasFirm 31 = .ok (.aaload, 1) := by decide +kernel
theorem dX10_hasFirm_32 : decode cX10_hasFirm 32 = .ok (.aload_n 2, 1) := by decide +kernel
theorem dX10_hasFirm_33 : decode cX10_hasFirm 33 = .ok (.iload_n 3, 1) := by decide +kernel
theorem dX10_hasFirm_34 : decode cX10_hasFirm 34 = .ok (.iload 5, 2) := by decide +kernel
theorem dX10_hasFirm_36 : decode cX10_hasFirm 36 = .ok (.iadd, 1) := by decide +kernel
theorem dX10_hasFirm_37 : decode cX10_hasFirm 37 = .ok (.iaload, 1) := by decide +kernel
theorem dX10_hasFirm_38 : decode cX10_hasFirm 38 = .ok (.iaload, 1) := by decide +kernel
theorem dX10_hasFirm_39 : decode cX10_hasFirm 39 = .ok (.iconst 4, 1) := by decide +kernel
theorem dX10_hasFirm_40 : decode cX10_hasFirm 40 = .ok (.if_icmp .ne 5, 3) := by decide +kernel
theorem dX10_hasFirm_43 : decode cX10_hasFirm 43 = .ok (.iconst 1, 1) := by decide +kernel
theorem dX10_hasFirm_44 : decode cX10_hasFirm 44 = .ok (.ireturn, 1) := by decide +kernel
theorem dX10_hasFirm_45 : decode cX10_hasFirm 45 = .ok (.iinc 5 1, 3) := by decide +kernel
theorem dX10_hasFirm_48 : decode cX10_hasFirm 48 = .ok (.goto (-45), 3) := by decide +kernel
theorem dX10_hasFirm_51 : decode cX10_hasFirm 51 = .ok (.iconst 0, 1) := by decide +kernel
theorem dX10_hasFirm_52 : decode cX10_hasFirm 52 = .ok (.ireturn, 1) := by decide +kernel
/-- a row behind its first m items -/
def rdrop : Nat → Rw → Rw
  | 0, w => w
  | _ + 1, .leaf => .leaf
  | m + 1, .inner _ _ _ _ r => rdrop m r
theorem RA_drop {μ : va_M} {t : Nat} : ∀ (m : Nat) (w : Rw) (p : Nat), RA μ t w p → RA μ t (rdrop m w) (p + rO w m)
  | 0, .leaf, _, _ => trivial
  | 0, .inner _ _ _ _ _, _, h => h
  | _ + 1, .leaf, _, _ => trivial
  | m + 1, .inner z k v l r, p, ⟨_, _, _, _, h⟩ => by
    have h1 := RA_drop m r _ h
    have e : rO (Std.DTreeMap.Internal.Impl.inner z k v l r : Rw) (m + 1) = 1 + rN l + rO r m := rfl
    rw [e, show p + (1 + rN l + rO r m) = p + 1 + rN l + rO r m by omega]
    exact h1
theorem rdrop_I : ∀ (m : Nat) (w : Rw), rI (rdrop m w) = rI w - m
  | 0, _ => rfl
  | _ + 1, .leaf => by show 0 = 0 - _; omega
  | m + 1, .inner _ _ _ _ r => by rw [rdrop, rdrop_I m r, rI_in]; omega
theorem rdrop_N : ∀ (m : Nat) (w : Rw), rO w m + rN (rdrop m w) = rN w
  | 0, .leaf => rfl
  | 0, .inner _ _ _ _ _ => Nat.zero_add _
  | _ + 1, .leaf => rfl
  | m + 1, .inner z k v l r => by
    have e : rO (Std.DTreeMap.Internal.Impl.inner z k v l r : Rw) (m + 1) = 1 + rN l + rO r m := rfl
    rw [rdrop, e, rN_in, ← rdrop_N m r]; omega
theorem rdrop_WF : ∀ (m : Nat) (w : Rw), rWF w → rWF (rdrop m w)
  | 0, _, h => h
  | _ + 1, .leaf, h => h
  | m + 1, .inner _ _ _ _ r, h => rdrop_WF m r h.2.2.2.2.2.2.2
theorem rdrop_H : ∀ (m : Nat) (w : Rw), rH (rdrop m w) ≤ rH w
  | 0, _ => Nat.le_refl _
  | _ + 1, .leaf => Nat.le_refl _
  | m + 1, .inner _ _ _ _ r => by rw [rdrop, rH_in]; have := rdrop_H m r; omega
theorem rI_pos {w : Rw} (h : 0 < rI w) : ∃ (z k : Nat) (v : Int) (l r : Rw), w = Std.DTreeMap.Internal.Impl.inner z k v l r := by
  cases w with
  | leaf => exact absurd h (Nat.lt_irrefl 0)
  | inner z k v l r => exact ⟨z, k, v, l, r, rfl⟩
/-- the first items of two rows are alike; one is firm -/
def halk : Rw → Rw → Prop
  | .inner _ k v l _, .inner _ k2 v2 l2 _ => ialk k v l k2 v2 l2
  | _, _ => False
def hfirm : Rw → Prop
  | .inner _ k _ _ _ => k = 0 ∨ k = 4
  | .leaf => False
/-- an array holds where the items of a row begin -/
def rowIs (μ : va_M) (q : Nat) (w : Rw) (p : Int) : Prop := ∀ m : Nat, m < rI w → μ q m = p + rO w m
set_option maxHeartbeats 4000000 in
set_option maxRecDepth 100000 in
theorem LX10_areRowsAlike_3 {p : Program} {l : Launch} {e : Env} {R : Room} {s : State} {m : MethodId} {args : Array Value} {below : List Frame} {meth : Method} {c : Code} {cells slots : Nat} {Q : State → Prop} {dC : Nat → ClassId} {dI : Nat → Nat → Nat} {h0 : Nat} {cI cZ cII cIII : ClassId} (hx : p.tables.exec = Jvm.exec) (hb : c.code = cX10_areRowsAlike) (hml : c.maxLocals = 7) (hown : s.vm.findClass RX10 = some m.cls) (hts : ∀ w ∈ wsG, w.before args s = true) (hK : va_K (dC, dI) vwCl (mT cI cZ cII cIII) s) (hRf : 24 ≤ R.frames) (hRl : 727 ≤ R.locals) (hRc : cells ≤ R.cells) (hRs : slots ≤ R.slots) (μ0 : va_M) (t : Int) (q : Nat) (a : Int) (b : Int) (n : Int) (w : Rw) (ht : 0 ≤ t ∧ t < 70) (hq : (723 ≤ q ∧ q < 737) ∨ (738 ≤ q ∧ q < 752)) (hR : RA μ0 t.toNat w 0) (hN : rN w ≤ 900) (hwf : rWF w) (hHH : rH w ≤ 20) (hrow : rowIs μ0 q w 0) (h260 : rI w ≤ 260) (ha : 0 ≤ a ∧ 0 ≤ b ∧ 0 ≤ n ∧ a + n ≤ rI w ∧ b + n ≤ rI w) (hexit32 : ∀ (k : Int) (μ : va_M) (H : Heap) (locs : List Loc) (ls : Array Slot), (μ = μ0) → (¬ ∀ m : Nat, (m : Int) < n → halk (rdrop (a.toNat + m) w) (rdrop (b.toNat + m) w)) → va_P (dC, dI) vwCl (fw (mE cI cZ cII cIII h0) h0 6325 μ) H → va_S (fA h0 6325 s.heap.size) s.heap H locs → lv_has ls 7 [] → W p l e R s m args below meth c H locs cells slots Q (F0 m 32 ls [])) (hexit40 : ∀ (k : Int) (μ : va_M) (H : Heap) (locs : List Loc) (ls : Array Slot), (μ = μ0) → (∀ m : Nat, (m : Int) < n → halk (rdrop (a.toNat + m) w) (rdrop (b.toNat + m) w)) → va_P (dC, dI) vwCl (fw (mE cI cZ cII cIII h0) h0 6325 μ) H → va_S (fA h0 6325 s.heap.size) s.heap H locs → lv_has ls 7 [] → W p l e R s m args below meth c H locs cells slots Q (F0 m 40 ls [])) :
    ∀ (n9 : Nat) (k : Int) (μ : va_M) (H : Heap) (locs : List Loc) (ls : Array Slot), (μ = μ0) → (0 ≤ k ∧ k ≤ n) → (∀ m : Nat, (m : Int) < k → halk (rdrop (a.toNat + m) w) (rdrop (b.toNat + m) w)) → (n - k).toNat < n9 → va_P (dC, dI) vwCl (fw (mE cI cZ cII cIII h0) h0 6325 μ) H → va_S (fA h0 6325 s.heap.size) s.heap H locs → lv_has ls 7 [(6, .int (iZ (k))), (0, .ref h0), (1, .int (iZ (t))), (2, .ref (h0 + q)), (3, .int (iZ (a))), (4, .int (iZ (b))), (5, .int (iZ (n)))] → W p l e R s m args below meth c H locs cells slots Q (F0 m 3 ls []) := by
  intro n9
  induction n9 with
  | zero => intro k μ H locs ls hm hk hal hm9 hP hS hl; exact absurd hm9 (Nat.not_lt_zero _)
  | succ n9 ih =>
    intro k μ H locs ls hm hk hal hm9 hP hS hl
    subst hm
    refine lv_iload hx hb dX10_areRowsAlike_3 (lv_at hl 0 rfl) ?_
    refine lv_iload hx hb dX10_areRowsAlike_5 (lv_at hl 6 rfl) ?_
    refine fz_icmp_ge (tgt := 40) (by constructor <;> (first | ((try clear fx2); (try clear fx3); (try clear fx6); (try clear fy2); (try clear fy3); (try clear fy6); omega) | omega)) (by constructor <;> (first | ((try clear fx2); (try clear fx3); (try clear fx6); (try clear fy2); (try clear fy3); (try clear fy6); omega) | omega)) hx hb dX10_areRowsAlike_7 (by decide) (fun c7_ => ?_) (fun c7_ => ?_)
    · exact hexit40 (k) μ H locs ls (by rfl) (by intro m hm; exact hal m (by (first | ((try clear fx2); (try clear fx3); (try clear fx6); (try clear fy2); (try clear fy3); (try clear fy6); omega) | omega))) hP hS (lv_sub hl [] rfl)
    · have hIx := rdrop_I (a.toNat + k.toNat) w
      have hNx := rdrop_N (a.toNat + k.toNat) w
      have hHx := rdrop_H (a.toNat + k.toNat) w
      have hFx := rdrop_WF (a.toNat + k.toNat) w hwf
      have hRx := RA_drop (a.toNat + k.toNat) w 0 hR
      obtain ⟨zx, kx, vx, lx, wx, hex⟩ := rI_pos (w := rdrop (a.toNat + k.toNat) w) (by (first | ((try clear fx2); (try clear fx3); (try clear fx6); (try clear fy2); (try clear fy3); (try clear fy6); omega) | omega))
      rw [hex] at hIx hNx hHx hFx hRx
      rw [rN_in] at hNx; rw [rI_in] at hIx; rw [rH_in] at hHx
      obtain ⟨fx1, fx2, fx3, fx4, fx5, fx6, fx7, fx8⟩ := hFx
      obtain ⟨rx1, rx2, rx3, rx4, rx5⟩ := hRx
      rw [Nat.zero_add] at rx1 rx2 rx3 rx4
      have hIy := rdrop_I (b.toNat + k.toNat) w
      have hNy := rdrop_N (b.toNat + k.toNat) w
      have hHy := rdrop_H (b.toNat + k.toNat) w
      have hFy := rdrop_WF (b.toNat + k.toNat) w hwf
      have hRy := RA_drop (b.toNat + k.toNat) w 0 hR
      obtain ⟨zy, ky, vy, ly, wy, hey⟩ := rI_pos (w := rdrop (b.toNat + k.toNat) w) (by (first | ((try clear fx2); (try clear fx3); (try clear fx6); (try clear fy2); (try clear fy3); (try clear fy6); omega) | omega))
      rw [hey] at hIy hNy hHy hFy hRy
      rw [rN_in] at hNy; rw [rI_in] at hIy; rw [rH_in] at hHy
      obtain ⟨fy1, fy2, fy3, fy4, fy5, fy6, fy7, fy8⟩ := hFy
      obtain ⟨ry1, ry2, ry3, ry4, ry5⟩ := hRy
      rw [Nat.zero_add] at ry1 ry2 ry3 ry4
      refine lv_aload_n hx hb dX10_areRowsAlike_10 rfl (lv_at hl 1 rfl) ?_
      refine lv_iload_n hx hb dX10_areRowsAlike_11 rfl (lv_at hl 2 rfl) ?_
      refine lv_aload_n hx hb dX10_areRowsAlike_12 rfl (lv_at hl 3 rfl) ?_
      refine lv_iload_n hx hb dX10_areRowsAlike_13 rfl (lv_at hl 4 rfl) ?_
      refine lv_iload hx hb dX10_areRowsAlike_14 (lv_at hl 0 rfl) ?_
      refine lv_iadd hx hb dX10_areRowsAlike_16 ?_
      refine lv_topi (fun x9 ex9 => ?_)
      obtain rfl : x9 = iZ (a + k) := ex9.trans (iZ_add _ _)
      refine fz_ld (k := q) (n := 260) hx hb hK hP 0 (by (first | ((try clear fx2); (try clear fx3); (try clear fx6); (try clear fy2); (try clear fy3); (try clear fy6); omega) | omega)) (mE_rowAny (by (first | ((try clear fx2); (try clear fx3); (try clear fx6); (try clear fy2); (try clear fy3); (try clear fy6); omega) | omega))) rfl ⟨by (first | ((try clear fx2); (try clear fx3); (try clear fx6); (try clear fy2); (try clear fy3); (try clear fy6); omega) | omega), by (first | ((try clear fx2); (try clear fx3); (try clear fx6); (try clear fy2); (try clear fy3); (try clear fy6); omega) | omega)⟩ (by decide) dX10_areRowsAlike_17 ?_
      rw [show μ q (a + k).toNat = (rO w (a.toNat + k.toNat) : Int) from (by rw [show (a + k).toNat = a.toNat + k.toNat by (first | ((try clear fx2); (try clear fx3); (try clear fx6); (try clear fy2); (try clear fy3); (try clear fy6); omega) | omega), hrow _ (by (first | ((try clear fx2); (try clear fx3); (try clear fx6); (try clear fy2); (try clear fy3); (try clear fy6); omega) | omega))]; omega)]
      refine lv_iload_n hx hb dX10_areRowsAlike_18 rfl (lv_at hl 2 rfl) ?_
      refine lv_aload_n hx hb dX10_areRowsAlike_19 rfl (lv_at hl 3 rfl) ?_
      refine lv_iload hx hb dX10_areRowsAlike_20 (lv_at hl 5 rfl) ?_
      refine lv_iload hx hb dX10_areRowsAlike_22 (lv_at hl 0 rfl) ?_
      refine lv_iadd hx hb dX10_areRowsAlike_24 ?_
      refine lv_topi (fun x9 ex9 => ?_)
      obtain rfl : x9 = iZ (b + k) := ex9.trans (iZ_add _ _)
      refine fz_ld (k := q) (n := 260) hx hb hK hP 0 (by (first | ((try clear fx2); (try clear fx3); (try clear fx6); (try clear fy2); (try clear fy3); (try clear fy6); omega) | omega)) (mE_rowAny (by (first | ((try clear fx2); (try clear fx3); (try clear fx6); (try clear fy2); (try clear fy3); (try clear fy6); omega) | omega))) rfl ⟨by (first | ((try clear fx2); (try clear fx3); (try clear fx6); (try clear fy2); (try clear fy3); (try clear fy6); omega) | omega), by (first | ((try clear fx2); (try clear fx3); (try clear fx6); (try clear fy2); (try clear fy3); (try clear fy6); omega) | omega)⟩ (by decide) dX10_areRowsAlike_25 ?_
      rw [show μ q (b + k).toNat = (rO w (b.toNat + k.toNat) : Int) from (by rw [show (b + k).toNat = b.toNat + k.toNat by (first | ((try clear fx2); (try clear fx3); (try clear fx6); (try clear fy2); (try clear fy3); (try clear fy6); omega) | omega), hrow _ (by (first | ((try clear fx2); (try clear fx3); (try clear fx6); (try clear fy2); (try clear fy3); (try clear fy6); omega) | omega))]; omega)]
      refine va_calli (va_runV (As := [.int (iZ (t)), .int (iZ ((rO w (a.toNat + k.toNat) : Int))), .int (iZ (t)), .int (iZ ((rO w (b.toNat + k.toNat) : Int)))]) (rest := []) ⟨hx, hb, hml, hown, hts⟩ (m_areAlike l dC dI cI cZ cII cIII h0 (20) H.size μ (t) ((rO w (a.toNat + k.toNat) : Int)) (t) ((rO w (b.toNat + k.toNat) : Int)) (kx) (vx) (lx) (ky) (vy) (ly) (by first | assumption | ((try clear fx2); (try clear fx3); (try clear fx6); (try clear fy2); (try clear fy3); (try clear fy6); omega) | omega | exact ⟨by (first | ((try clear fx2); (try clear fx3); (try clear fx6); (try clear fy2); (try clear fy3); (try clear fy6); omega) | omega), by (first | ((try clear fx2); (try clear fx3); (try clear fx6); (try clear fy2); (try clear fy3); (try clear fy6); omega) | omega)⟩) (by first | assumption | ((try clear fx2); (try clear fx3); (try clear fx6); (try clear fy2); (try clear fy3); (try clear fy6); omega) | omega | exact ⟨by (first | ((try clear fx2); (try clear fx3); (try clear fx6); (try clear fy2); (try clear fy3); (try clear fy6); omega) | omega), by (first | ((try clear fx2); (try clear fx3); (try clear fx6); (try clear fy2); (try clear fy3); (try clear fy6); omega) | omega)⟩) (by exact ⟨by (first | ((try clear fx2); (try clear fx3); (try clear fx6); (try clear fy2); (try clear fy3); (try clear fy6); omega) | omega), by (first | ((try clear fx2); (try clear fx3); (try clear fx6); (try clear fy2); (try clear fy3); (try clear fy6); omega) | omega)⟩) (by exact ⟨by (first | ((try clear fx2); (try clear fx3); (try clear fx6); (try clear fy2); (try clear fy3); (try clear fy6); omega) | omega), by (first | ((try clear fx2); (try clear fx3); (try clear fx6); (try clear fy2); (try clear fy3); (try clear fy6); omega) | omega)⟩) (by exact ⟨rx1, rx2, rx3, rx4⟩) (by exact ⟨ry1, ry2, ry3, ry4⟩) (by exact ⟨fx1, fx2, fx3, fx4, fx5, fx6, fx7⟩) (by exact ⟨fy1, fy2, fy3, fy4, fy5, fy6, fy7⟩) (by first | assumption | ((try clear fx2); (try clear fx3); (try clear fx6); (try clear fy2); (try clear fy3); (try clear fy6); omega) | omega | exact ⟨by (first | ((try clear fx2); (try clear fx3); (try clear fx6); (try clear fy2); (try clear fy3); (try clear fy6); omega) | omega), by (first | ((try clear fx2); (try clear fx3); (try clear fx6); (try clear fy2); (try clear fy3); (try clear fy6); omega) | omega)⟩)) (cwV 4 hts (gV_G k1393 k1395 ks_yX10_areAlike k13 k1396) rfl rfl rfl (by decide +kernel) ⟨by show 23 + 1 ≤ _; omega, by show 8 + (8 + 11) + (700) ≤ _; omega⟩) ⟨fun a U g mk q => by obtain ⟨q0, q1, qP, qK⟩ := q; exact ⟨q0, q1, qP, va_K.moved (u := U) (U := U.calling g mk a) (Vm.Alike.refl U.vm) qK⟩, va_recv hK hP (ci := 10) (q0 := 0) rfl ((fw_get (by decide)).trans (by rw [mE_obj]; rfl)), fun U hU hW => ⟨rfl, by rw [hU], by rw [hU]; exact hP, va_K.moved hW.alike hK⟩⟩ rfl rfl hl.1 rfl (lv_room (Nat.le_of_ble_eq_true rfl)) dX10_areRowsAlike_26 ⟨hRc, hRs⟩) hS (fun q _ h => fA_le hS.1 q h) (fA_le hS.1) (fun r9 u9 t9 H1 locs ht9 hvm9 hw9 hB9 hz9 hk9 hS => ?_)
      obtain ⟨μ1, r2⟩ := u9
      obtain ⟨hP, -⟩ := hB9
      rw [ht9] at hP
      generalize H1 = H at hP hS ⊢
      obtain ⟨e9, hw9⟩ := hw9
      have e9 : r9 = iZ r2 := e9
      subst e9
      simp only at hP hw9
      have hμ1 := hw9; clear hw9
      rw [hμ1.1] at hP; have hμ1 := hμ1.2
      refine fz_if_ne (tgt := 34) (by constructor <;> (first | ((try clear fx2); (try clear fx3); (try clear fx6); (try clear fy2); (try clear fy3); (try clear fy6); omega) | omega)) hx hb dX10_areRowsAlike_29 (by decide) (fun c29_ => ?_) (fun c29_ => ?_)
      · refine lv_iinc (v := iZ (k + 1)) (lv' := [(6, .int (iZ (k + 1))), (0, .ref h0), (1, .int (iZ (t))), (2, .ref (h0 + q)), (3, .int (iZ (a))), (4, .int (iZ (b))), (5, .int (iZ (n)))]) hx hb dX10_areRowsAlike_34 hl (k := 0) rfl (iZ_add _ _) (by decide) rfl (fun ls hl => ?_)
        refine lv_goto (tgt := 3) hx hb dX10_areRowsAlike_37 (by decide) ?_
        exact ih (k + 1) μ H locs ls (by rfl) (by (first | ((try clear fx2); (try clear fx3); (try clear fx6); (try clear fy2); (try clear fy3); (try clear fy6); omega) | omega)) (by
                        intro m hm
                        by_cases h9 : (m : Int) < k
                        · exact hal m h9
                        · obtain rfl : m = k.toNat := by (first | ((try clear fx2); (try clear fx3); (try clear fx6); (try clear fy2); (try clear fy3); (try clear fy6); omega) | omega)
                          rw [hex, hey]
                          rcases hμ1 with ⟨_, h⟩ | ⟨h, _⟩
                          · exact h
                          · omega) (by (first | ((try clear fx2); (try clear fx3); (try clear fx6); (try clear fy2); (try clear fy3); (try clear fy6); omega) | omega)) hP hS (lv_sub hl [0, 1, 2, 3, 4, 5, 6] rfl)
      · exact hexit32 (k) μ H locs ls (by rfl) (by
                        intro h
                        have h8 := h k.toNat (by (first | ((try clear fx2); (try clear fx3); (try clear fx6); (try clear fy2); (try clear fy3); (try clear fy6); omega) | omega))
                        rw [hex, hey] at h8
                        rcases hμ1 with ⟨h9, _⟩ | ⟨_, h9⟩
                        · omega
                        · exact h9 h8) hP hS (lv_sub hl [] rfl)
set_option maxHeartbeats 4000000 in
set_option maxRecDepth 100000 in
theorem m_areRowsAlike (l : Launch) (dC : Nat → ClassId) (dI : Nat → Nat → Nat) (cI cZ cII cIII : ClassId) (h0 sz : Nat) (μ : va_M) (t : Int) (q : Nat) (a : Int) (b : Int) (n : Int) (w : Rw) (ht : 0 ≤ t ∧ t < 70) (hq : (723 ≤ q ∧ q < 737) ∨ (738 ≤ q ∧ q < 752)) (hR : RA μ t.toNat w 0) (hN : rN w ≤ 900) (hwf : rWF w) (hHH : rH w ≤ 20) (hrow : rowIs μ q w 0) (h260 : rI w ≤ 260) (ha : 0 ≤ a ∧ 0 ≤ b ∧ 0 ≤ n ∧ a + n ≤ rI w ∧ b + n ≤ rI w) : Met l yX10_areRowsAlike (Cond.code yX10_areRowsAlike cX10_areRowsAlike 7 (some .boolean) :: wsG) ({ frames := 24, cells := 0, slots := 0, locals := 727 } : Room) (va_Pc [.ref h0, .int (iZ (t)), .ref (h0 + q), .int (iZ (a)), .int (iZ (b)), .int (iZ (n))] (fun U => U.heap.size = sz ∧ va_P (dC, dI) vwCl (fw (mE cI cZ cII cIII h0) h0 6325 μ) U.heap ∧ va_K (dC, dI) vwCl (mT cI cZ cII cIII) U)) (va_Qi (fun (r9 : Int32) (u : va_M × Int) => r9 = iZ u.2 ∧ (fun (u : va_M) (r : Int) => u = μ ∧ ((r = 1 ∧ ∀ m : Nat, (m : Int) < n → halk (rdrop (a.toNat + m) w) (rdrop (b.toNat + m) w)) ∨ (r = 0 ∧ ¬ ∀ m : Nat, (m : Int) < n → halk (rdrop (a.toNat + m) w) (rdrop (b.toNat + m) w)))) u.1 u.2) (fun u t => va_P (dC, dI) vwCl (fw (mE cI cZ cII cIII h0) h0 6325 u.1) t.heap ∧ va_K (dC, dI) vwCl (mT cI cZ cII cIII) t) (fA h0 6325 sz)) 0 0 (fA h0 6325 sz) := by
  refine Met.ofW (cc := cX10_areRowsAlike) (maxL := 7) (ret := (some .boolean)) (by decide) rfl ?_
  intro p e s m args below meth c s₁ B hml hv
  obtain ⟨rfl, hsz, hP, hK⟩ := hv
  have hx := B.exec
  have hb := B.bytes
  have hr := B.returns
  have hts : ∀ w ∈ wsG, w.before _ s = true := hG_of (atoms_spec (ws := (Cond.code yX10_areRowsAlike cX10_areRowsAlike 7 (some .boolean) :: wsG)) B.pre)
  have hown : s.vm.findClass RX10 = some m.cls := findClass_of_methodNamed B.named
  have hlocks := B.notSynchronized
  subst hsz
  have hS : va_S (fA h0 6325 s.heap.size) s.heap s.heap [] := va_S.rf
  have hl := lv_entry ([.ref h0, .int (iZ (t)), .ref (h0 + q), .int (iZ (a)), .int (iZ (b)), .int (iZ (n))]) (n := 7) (Nat.le_of_ble_eq_true rfl)
  rw [lg_entry_eq]
  generalize (lg_sl ([.ref h0, .int (iZ (t)), .ref (h0 + q), .int (iZ (a)), .int (iZ (b)), .int (iZ (n))]) ++ List.replicate (7 - (lg_sl ([.ref h0, .int (iZ (t)), .ref (h0 + q), .int (iZ (a)), .int (iZ (b)), .int (iZ (n))])).length) Slot.unset).toArray = ls at hl ⊢
  have hl : lv_has ls 7 [(0, .ref h0), (1, .int (iZ (t))), (2, .ref (h0 + q)), (3, .int (iZ (a))), (4, .int (iZ (b))), (5, .int (iZ (n)))] := hl
  refine lv_iconst (v := iZ 0) hx hb dX10_areRowsAlike_0 rfl ?_
  refine lv_istore (lv' := [(6, .int (iZ (0))), (0, .ref h0), (1, .int (iZ (t))), (2, .ref (h0 + q)), (3, .int (iZ (a))), (4, .int (iZ (b))), (5, .int (iZ (n)))]) hx hb dX10_areRowsAlike_1 hl (by decide) rfl (fun ls hl => ?_)
  refine LX10_areRowsAlike_3 hx hb hml hown hts hK (Nat.le_of_ble_eq_true rfl) (Nat.le_of_ble_eq_true rfl) (Nat.le_of_ble_eq_true rfl) (Nat.le_of_ble_eq_true rfl) (μ) (t) (q) (a) (b) (n) (w) (by assumption) (by assumption) (by assumption) (by assumption) (by assumption) (by assumption) (by assumption) (by assumption) (by assumption) ?_ ?_ _ (0) μ s.heap [] ls (by rfl) (by omega) (by intro m hm; omega) (Nat.lt_succ_self _) hP hS (lv_sub hl [0, 1, 2, 3, 4, 5, 6] rfl)
  · intro k_3 μ3_ H locs ls q3_3 q4_3 hP hS hl
    have hl : lv_has ls 7 [] := hl
    refine lv_iconst (v := iZ 0) hx hb dX10_areRowsAlike_32 rfl ?_
    exact W.zret (v := iZ (0)) hx hb hr (by decide +kernel) (fun t9 ht9 hW9 => ⟨⟨iZ (0), (μ3_, 0), rfl, ⟨rfl, (by
                dsimp only
                exact ⟨q3_3, Or.inr ⟨rfl, q4_3⟩⟩)⟩, by rw [ht9]; exact hP, va_K.moved hW9.alike hK⟩, hS.F ht9⟩) hS.2.2 dX10_areRowsAlike_33
  · intro k_4 μ4_ H locs ls q1_4 q2_4 hP hS hl
    have hl : lv_has ls 7 [] := hl
    refine lv_iconst (v := iZ 1) hx hb dX10_areRowsAlike_40 rfl ?_
    exact W.zret (v := iZ (1)) hx hb hr (by decide +kernel) (fun t9 ht9 hW9 => ⟨⟨iZ (1), (μ4_, 1), rfl, ⟨rfl, (by
                dsimp only
                exact ⟨q1_4, Or.inl ⟨rfl, q2_4⟩⟩)⟩, by rw [ht9]; exact hP, va_K.moved hW9.alike hK⟩, hS.F ht9⟩) hS.2.2 dX10_areRowsAlike_41
set_option maxHeartbeats 4000000 in
set_option maxRecDepth 100000 in
theorem LX10_hasFirm_3 {p : Program} {l : Launch} {e : Env} {R : Room} {s : State} {m : MethodId} {args : Array Value} {below : List Frame} {meth : Method} {c : Code} {cells slots : Nat} {Q : State → Prop} {dC : Nat → ClassId} {dI : Nat → Nat → Nat} {h0 : Nat} {cI cZ cII cIII : ClassId} (hx : p.tables.exec = Jvm.exec) (hb : c.code = cX10_hasFirm) (hml : c.maxLocals = 6) (hown : s.vm.findClass RX10 = some m.cls) (hts : ∀ w ∈ wsG, w.before args s = true) (hK : va_K (dC, dI) vwCl (mT cI cZ cII cIII) s) (hRf : 1 ≤ R.frames) (hRl : 14 ≤ R.locals) (hRc : cells ≤ R.cells) (hRs : slots ≤ R.slots) (μ0 : va_M) (t : Int) (q : Nat) (a : Int) (n : Int) (w : Rw) (ht : 0 ≤ t ∧ t < 70) (hq : (723 ≤ q ∧ q < 737) ∨ (738 ≤ q ∧ q < 752)) (hR : RA μ0 t.toNat w 0) (hN : rN w ≤ 900) (hwf : rWF w) (hHH : rH w ≤ 20) (hrow : rowIs μ0 q w 0) (h260 : rI w ≤ 260) (ha : 0 ≤ a ∧ 0 ≤ n ∧ a + n ≤ rI w) (hexit43 : ∀ (k : Int) (μ : va_M) (H : Heap) (locs : List Loc) (ls : Array Slot), (μ = μ0) → (∃ m : Nat, (m : Int) < n ∧ hfirm (rdrop (a.toNat + m) w)) → va_P (dC, dI) vwCl (fw (mE cI cZ cII cIII h0) h0 6325 μ) H → va_S (fA h0 6325 s.heap.size) s.heap H locs → lv_has ls 6 [] → W p l e R s m args below meth c H locs cells slots Q (F0 m 43 ls [])) (hexit51 : ∀ (k : Int) (μ : va_M) (H : Heap) (locs : List Loc) (ls : Array Slot), (μ = μ0) → (∀ m : Nat, (m : Int) < n → ¬ hfirm (rdrop (a.toNat + m) w)) → va_P (dC, dI) vwCl (fw (mE cI cZ cII cIII h0) h0 6325 μ) H → va_S (fA h0 6325 s.heap.size) s.heap H locs → lv_has ls 6 [] → W p l e R s m args below meth c H locs cells slots Q (F0 m 51 ls [])) :
    ∀ (n9 : Nat) (k : Int) (μ : va_M) (H : Heap) (locs : List Loc) (ls : Array Slot), (μ = μ0) → (0 ≤ k ∧ k ≤ n) → (∀ m : Nat, (m : Int) < k → ¬ hfirm (rdrop (a.toNat + m) w)) → (n - k).toNat < n9 → va_P (dC, dI) vwCl (fw (mE cI cZ cII cIII h0) h0 6325 μ) H → va_S (fA h0 6325 s.heap.size) s.heap H locs → lv_has ls 6 [(5, .int (iZ (k))), (0, .ref h0), (1, .int (iZ (t))), (2, .ref (h0 + q)), (3, .int (iZ (a))), (4, .int (iZ (n)))] → W p l e R s m args below meth c H locs cells slots Q (F0 m 3 ls []) := by
  intro n9
  induction n9 with
  | zero => intro k μ H locs ls hm hk hal hm9 hP hS hl; exact absurd hm9 (Nat.not_lt_zero _)
  | succ n9 ih =>
    intro k μ H locs ls hm hk hal hm9 hP hS hl
    subst hm
    refine lv_iload hx hb dX10_hasFirm_3 (lv_at hl 0 rfl) ?_
    refine lv_iload hx hb dX10_hasFirm_5 (lv_at hl 5 rfl) ?_
    refine fz_icmp_ge (tgt := 51) (by constructor <;> (first | ((try clear fx2); (try clear fx3); (try clear fx6); omega) | omega)) (by constructor <;> (first | ((try clear fx2); (try clear fx3); (try clear fx6); omega) | omega)) hx hb dX10_hasFirm_7 (by decide) (fun c7_ => ?_) (fun c7_ => ?_)
    · exact hexit51 (k) μ H locs ls (by rfl) (by intro m hm; exact hal m (by (first | ((try clear fx2); (try clear fx3); (try clear fx6); omega) | omega))) hP hS (lv_sub hl [] rfl)
    · have hIx := rdrop_I (a.toNat + k.toNat) w
      have hNx := rdrop_N (a.toNat + k.toNat) w
      have hHx := rdrop_H (a.toNat + k.toNat) w
      have hFx := rdrop_WF (a.toNat + k.toNat) w hwf
      have hRx := RA_drop (a.toNat + k.toNat) w 0 hR
      obtain ⟨zx, kx, vx, lx, wx, hex⟩ := rI_pos (w := rdrop (a.toNat + k.toNat) w) (by (first | ((try clear fx2); (try clear fx3); (try clear fx6); omega) | omega))
      rw [hex] at hIx hNx hHx hFx hRx
      rw [rN_in] at hNx; rw [rI_in] at hIx; rw [rH_in] at hHx
      obtain ⟨fx1, fx2, fx3, fx4, fx5, fx6, fx7, fx8⟩ := hFx
      obtain ⟨rx1, rx2, rx3, rx4, rx5⟩ := hRx
      rw [Nat.zero_add] at rx1 rx2 rx3 rx4
      refine lv_aload_n hx hb dX10_hasFirm_10 rfl (lv_at hl 1 rfl) ?_
      refine fz_get (D := (dC, dI)) (ci := 10) (v := .ref (h0 + 506)) (C := RX10) (T := TX10) (N := 53) hx hb hts inG10 hown hK hP (k := 0) (by decide) (F := mF h0) mE_obj rfl 18 (by decide) (hts _ k1184) (fun _ h9 => h9) rfl dX10_hasFirm_11 ?_
      refine lv_iload_n hx hb dX10_hasFirm_14 rfl (lv_at hl 2 rfl) ?_
      refine fz_ald (k := 506) (n := 70) (k2 := (507 + (t).toNat)) hx hb hK hP 2 rfl (by decide) mE_sort rfl ⟨by (first | ((try clear fx2); (try clear fx3); (try clear fx6); omega) | omega), by (first | ((try clear fx2); (try clear fx3); (try clear fx6); omega) | omega)⟩ (by decide) (if_pos (by (first | ((try clear fx2); (try clear fx3); (try clear fx6); omega) | omega))) dX10_hasFirm_15 ?_
      refine lv_aload_n hx hb dX10_hasFirm_16 rfl (lv_at hl 3 rfl) ?_
      refine lv_iload_n hx hb dX10_hasFirm_17 rfl (lv_at hl 4 rfl) ?_
      refine lv_iload hx hb dX10_hasFirm_18 (lv_at hl 0 rfl) ?_
      refine lv_iadd hx hb dX10_hasFirm_20 ?_
      refine lv_topi (fun x9 ex9 => ?_)
      obtain rfl : x9 = iZ (a + k) := ex9.trans (iZ_add _ _)
      refine fz_ld (k := q) (n := 260) hx hb hK hP 0 (by (first | ((try clear fx2); (try clear fx3); (try clear fx6); omega) | omega)) (mE_rowAny (by (first | ((try clear fx2); (try clear fx3); (try clear fx6); omega) | omega))) rfl ⟨by (first | ((try clear fx2); (try clear fx3); (try clear fx6); omega) | omega), by (first | ((try clear fx2); (try clear fx3); (try clear fx6); omega) | omega)⟩ (by decide) dX10_hasFirm_21 ?_
      rw [show μ q (a + k).toNat = (rO w (a.toNat + k.toNat) : Int) from (by rw [show (a + k).toNat = a.toNat + k.toNat by (first | ((try clear fx2); (try clear fx3); (try clear fx6); omega) | omega), hrow _ (by (first | ((try clear fx2); (try clear fx3); (try clear fx6); omega) | omega))]; omega)]
      refine fz_ld (k := (507 + (t).toNat)) (n := 900) hx hb hK hP 0 (by (first | ((try clear fx2); (try clear fx3); (try clear fx6); omega) | omega)) (mE_sortR (by (first | ((try clear fx2); (try clear fx3); (try clear fx6); omega) | omega))) rfl ⟨by (first | ((try clear fx2); (try clear fx3); (try clear fx6); omega) | omega), by (first | ((try clear fx2); (try clear fx3); (try clear fx6); omega) | omega)⟩ (by decide) dX10_hasFirm_22 ?_
      rw [show μ (507 + (t).toNat) ((rO w (a.toNat + k.toNat) : Int)).toNat = (kx : Int) from (by exact rx1)]
      refine fz_if_eq (tgt := 43) (by constructor <;> (first | ((try clear fx2); (try clear fx3); (try clear fx6); omega) | omega)) hx hb dX10_hasFirm_23 (by decide) (fun c23_ => ?_) (fun c23_ => ?_)
      · exact hexit43 (k) μ H locs ls (by rfl) (by
                        refine ⟨k.toNat, by (first | ((try clear fx2); (try clear fx3); (try clear fx6); omega) | omega), ?_⟩
                        rw [hex]
                        show kx = 0 ∨ kx = 4
                        omega) hP hS (lv_sub hl [] rfl)
      · refine lv_aload_n hx hb dX10_hasFirm_26 rfl (lv_at hl 1 rfl) ?_
        refine fz_get (D := (dC, dI)) (ci := 10) (v := .ref (h0 + 506)) (C := RX10) (T := TX10) (N := 53) hx hb hts inG10 hown hK hP (k := 0) (by decide) (F := mF h0) mE_obj rfl 18 (by decide) (hts _ k1184) (fun _ h9 => h9) rfl dX10_hasFirm_27 ?_
        refine lv_iload_n hx hb dX10_hasFirm_30 rfl (lv_at hl 2 rfl) ?_
        refine fz_ald (k := 506) (n := 70) (k2 := (507 + (t).toNat)) hx hb hK hP 2 rfl (by decide) mE_sort rfl ⟨by (first | ((try clear fx2); (try clear fx3); (try clear fx6); omega) | omega), by (first | ((try clear fx2); (try clear fx3); (try clear fx6); omega) | omega)⟩ (by decide) (if_pos (by (first | ((try clear fx2); (try clear fx3); (try clear fx6); omega) | omega))) dX10_hasFirm_31 ?_
        refine lv_aload_n hx hb dX10_hasFirm_32 rfl (lv_at hl 3 rfl) ?_
        refine lv_iload_n hx hb dX10_hasFirm_33 rfl (lv_at hl 4 rfl) ?_
        refine lv_iload hx hb dX10_hasFirm_34 (lv_at hl 0 rfl) ?_
        refine lv_iadd hx hb dX10_hasFirm_36 ?_
        refine lv_topi (fun x9 ex9 => ?_)
        obtain rfl : x9 = iZ (a + k) := ex9.trans (iZ_add _ _)
        refine fz_ld (k := q) (n := 260) hx hb hK hP 0 (by (first | ((try clear fx2); (try clear fx3); (try clear fx6); omega) | omega)) (mE_rowAny (by (first | ((try clear fx2); (try clear fx3); (try clear fx6); omega) | omega))) rfl ⟨by (first | ((try clear fx2); (try clear fx3); (try clear fx6); omega) | omega), by (first | ((try clear fx2); (try clear fx3); (try clear fx6); omega) | omega)⟩ (by decide) dX10_hasFirm_37 ?_
        rw [show μ q (a + k).toNat = (rO w (a.toNat + k.toNat) : Int) from (by rw [show (a + k).toNat = a.toNat + k.toNat by (first | ((try clear fx2); (try clear fx3); (try clear fx6); omega) | omega), hrow _ (by (first | ((try clear fx2); (try clear fx3); (try clear fx6); omega) | omega))]; omega)]
        refine fz_ld (k := (507 + (t).toNat)) (n := 900) hx hb hK hP 0 (by (first | ((try clear fx2); (try clear fx3); (try clear fx6); omega) | omega)) (mE_sortR (by (first | ((try clear fx2); (try clear fx3); (try clear fx6); omega) | omega))) rfl ⟨by (first | ((try clear fx2); (try clear fx3); (try clear fx6); omega) | omega), by (first | ((try clear fx2); (try clear fx3); (try clear fx6); omega) | omega)⟩ (by decide) dX10_hasFirm_38 ?_
        rw [show μ (507 + (t).toNat) ((rO w (a.toNat + k.toNat) : Int)).toNat = (kx : Int) from (by exact rx1)]
        refine lv_iconst (v := iZ 4) hx hb dX10_hasFirm_39 rfl ?_
        refine fz_icmp_ne (tgt := 45) (by constructor <;> (first | ((try clear fx2); (try clear fx3); (try clear fx6); omega) | omega)) (by decide) hx hb dX10_hasFirm_40 (by decide) (fun c40_ => ?_) (fun c40_ => ?_)
        · refine lv_iinc (v := iZ (k + 1)) (lv' := [(5, .int (iZ (k + 1))), (0, .ref h0), (1, .int (iZ (t))), (2, .ref (h0 + q)), (3, .int (iZ (a))), (4, .int (iZ (n)))]) hx hb dX10_hasFirm_45 hl (k := 0) rfl (iZ_add _ _) (by decide) rfl (fun ls hl => ?_)
          refine lv_goto (tgt := 3) hx hb dX10_hasFirm_48 (by decide) ?_
          exact ih (k + 1) μ H locs ls (by rfl) (by (first | ((try clear fx2); (try clear fx3); (try clear fx6); omega) | omega)) (by
                            intro m hm
                            by_cases h9 : (m : Int) < k
                            · exact hal m h9
                            · obtain rfl : m = k.toNat := by (first | ((try clear fx2); (try clear fx3); (try clear fx6); omega) | omega)
                              rw [hex]
                              show ¬ (kx = 0 ∨ kx = 4)
                              omega) (by (first | ((try clear fx2); (try clear fx3); (try clear fx6); omega) | omega)) hP hS (lv_sub hl [0, 1, 2, 3, 4, 5] rfl)
        · exact hexit43 (k) μ H locs ls (by rfl) (by
                            refine ⟨k.toNat, by (first | ((try clear fx2); (try clear fx3); (try clear fx6); omega) | omega), ?_⟩
                            rw [hex]
                            show kx = 0 ∨ kx = 4
                            omega) hP hS (lv_sub hl [] rfl)
set_option maxHeartbeats 4000000 in
set_option maxRecDepth 100000 in
theorem m_hasFirm (l : Launch) (dC : Nat → ClassId) (dI : Nat → Nat → Nat) (cI cZ cII cIII : ClassId) (h0 sz : Nat) (μ : va_M) (t : Int) (q : Nat) (a : Int) (n : Int) (w : Rw) (ht : 0 ≤ t ∧ t < 70) (hq : (723 ≤ q ∧ q < 737) ∨ (738 ≤ q ∧ q < 752)) (hR : RA μ t.toNat w 0) (hN : rN w ≤ 900) (hwf : rWF w) (hHH : rH w ≤ 20) (hrow : rowIs μ q w 0) (h260 : rI w ≤ 260) (ha : 0 ≤ a ∧ 0 ≤ n ∧ a + n ≤ rI w) : Met l yX10_hasFirm (Cond.code yX10_hasFirm cX10_hasFirm 6 (some .boolean) :: wsG) ({ frames := 1, cells := 0, slots := 0, locals := 14 } : Room) (va_Pc [.ref h0, .int (iZ (t)), .ref (h0 + q), .int (iZ (a)), .int (iZ (n))] (fun U => U.heap.size = sz ∧ va_P (dC, dI) vwCl (fw (mE cI cZ cII cIII h0) h0 6325 μ) U.heap ∧ va_K (dC, dI) vwCl (mT cI cZ cII cIII) U)) (va_Qi (fun (r9 : Int32) (u : va_M × Int) => r9 = iZ u.2 ∧ (fun (u : va_M) (r : Int) => u = μ ∧ ((r = 1 ∧ ∃ m : Nat, (m : Int) < n ∧ hfirm (rdrop (a.toNat + m) w)) ∨ (r = 0 ∧ ∀ m : Nat, (m : Int) < n → ¬ hfirm (rdrop (a.toNat + m) w)))) u.1 u.2) (fun u t => va_P (dC, dI) vwCl (fw (mE cI cZ cII cIII h0) h0 6325 u.1) t.heap ∧ va_K (dC, dI) vwCl (mT cI cZ cII cIII) t) (fA h0 6325 sz)) 0 0 (fA h0 6325 sz) := by
  refine Met.ofW (cc := cX10_hasFirm) (maxL := 6) (ret := (some .boolean)) (by decide) rfl ?_
  intro p e s m args below meth c s₁ B hml hv
  obtain ⟨rfl, hsz, hP, hK⟩ := hv
  have hx := B.exec
  have hb := B.bytes
  have hr := B.returns
  have hts : ∀ w ∈ wsG, w.before _ s = true := hG_of (atoms_spec (ws := (Cond.code yX10_hasFirm cX10_hasFirm 6 (some .boolean) :: wsG)) B.pre)
  have hown : s.vm.findClass RX10 = some m.cls := findClass_of_methodNamed B.named
  have hlocks := B.notSynchronized
  subst hsz
  have hS : va_S (fA h0 6325 s.heap.size) s.heap s.heap [] := va_S.rf
  have hl := lv_entry ([.ref h0, .int (iZ (t)), .ref (h0 + q), .int (iZ (a)), .int (iZ (n))]) (n := 6) (Nat.le_of_ble_eq_true rfl)
  rw [lg_entry_eq]
  generalize (lg_sl ([.ref h0, .int (iZ (t)), .ref (h0 + q), .int (iZ (a)), .int (iZ (n))]) ++ List.replicate (6 - (lg_sl ([.ref h0, .int (iZ (t)), .ref (h0 + q), .int (iZ (a)), .int (iZ (n))])).length) Slot.unset).toArray = ls at hl ⊢
  have hl : lv_has ls 6 [(0, .ref h0), (1, .int (iZ (t))), (2, .ref (h0 + q)), (3, .int (iZ (a))), (4, .int (iZ (n)))] := hl
  refine lv_iconst (v := iZ 0) hx hb dX10_hasFirm_0 rfl ?_
  refine lv_istore (lv' := [(5, .int (iZ (0))), (0, .ref h0), (1, .int (iZ (t))), (2, .ref (h0 + q)), (3, .int (iZ (a))), (4, .int (iZ (n)))]) hx hb dX10_hasFirm_1 hl (by decide) rfl (fun ls hl => ?_)
  refine LX10_hasFirm_3 hx hb hml hown hts hK (Nat.le_of_ble_eq_true rfl) (Nat.le_of_ble_eq_true rfl) (Nat.le_of_ble_eq_true rfl) (Nat.le_of_ble_eq_true rfl) (μ) (t) (q) (a) (n) (w) (by assumption) (by assumption) (by assumption) (by assumption) (by assumption) (by assumption) (by assumption) (by assumption) (by assumption) ?_ ?_ _ (0) μ s.heap [] ls (by rfl) (by omega) (by intro m hm; omega) (Nat.lt_succ_self _) hP hS (lv_sub hl [0, 1, 2, 3, 4, 5] rfl)
  · intro k_1 μ1_ H locs ls q3_1 q4_1 hP hS hl
    have hl : lv_has ls 6 [] := hl
    refine lv_iconst (v := iZ 1) hx hb dX10_hasFirm_43 rfl ?_
    exact W.zret (v := iZ (1)) hx hb hr (by decide +kernel) (fun t9 ht9 hW9 => ⟨⟨iZ (1), (μ1_, 1), rfl, ⟨rfl, (by
                dsimp only
                exact ⟨q3_1, Or.inl ⟨rfl, q4_1⟩⟩)⟩, by rw [ht9]; exact hP, va_K.moved hW9.alike hK⟩, hS.F ht9⟩) hS.2.2 dX10_hasFirm_44
  · intro k_2 μ2_ H locs ls q1_2 q2_2 hP hS hl
    have hl : lv_has ls 6 [] := hl
    refine lv_iconst (v := iZ 0) hx hb dX10_hasFirm_51 rfl ?_
    exact W.zret (v := iZ (0)) hx hb hr (by decide +kernel) (fun t9 ht9 hW9 => ⟨⟨iZ (0), (μ2_, 0), rfl, ⟨rfl, (by
                dsimp only
                exact ⟨q1_2, Or.inr ⟨rfl, q2_2⟩⟩)⟩, by rw [ht9]; exact hP, va_K.moved hW9.alike hK⟩, hS.F ht9⟩) hS.2.2 dX10_hasFirm_52


/-! similar of the reference, told by the rows -/
theorem rdrop_in {w : Rw} {m : Nat} (h : m < rI w) : ∃ (z k : Nat) (v : Int) (l r : Rw), rdrop m w = .inner z k v l r := by
  have h1 := rdrop_I m w
  generalize rdrop m w = x at h1 ⊢
  cases x with
  | leaf =>
    have e : rI (Std.DTreeMap.Internal.Impl.leaf : Rw) = 0 := rfl
    omega
  | inner z k v l r => exact ⟨z, k, v, l, r, rfl⟩
theorem alk_hal {w b : Rw} (h : ralk w b) (m : Nat) (hm : m < rI w) : halk (rdrop m w) (rdrop m b) := by
  have hI := ralk_rI w b h
  refine (halk_pre (rI w) w b (Nat.le_refl _) (Nat.le_of_eq hI)).mp ?_ m hm
  rw [rpre_all w _ (Nat.le_refl _), rpre_all b _ (Nat.le_of_eq hI.symm)]
  exact h
theorem hal_alk {w b : Rw} (hI : rI w = rI b) (h : ∀ m, m < rI w → halk (rdrop m w) (rdrop m b)) : ralk w b := by
  have h1 := (halk_pre (rI w) w b (Nat.le_refl _) (Nat.le_of_eq hI)).mpr h
  rw [rpre_all w _ (Nat.le_refl _), rpre_all b _ (Nat.le_of_eq hI.symm)] at h1
  exact h1
/-- so far alike; or not alike -/
def siS (is9 k n : Int) (wp wq : Rw) : Prop := (is9 = 1 ∧ n = rI wq ∧ ∀ m : Nat, (m : Int) < k → halk (rdrop m wp) (rdrop m wq)) ∨ (is9 = 0 ∧ ¬ ralk wp wq)
theorem siS_r {is9 k n : Int} {wp wq : Rw} (h : siS is9 k n wp wq) : 0 ≤ is9 ∧ is9 ≤ 1 := by
  rcases h with ⟨h, -⟩ | ⟨h, -⟩ <;> omega
theorem siS_1 {is9 k n : Int} {wp wq : Rw} (h : siS is9 k n wp wq) (h1 : ¬ is9 = 0) : n = rI wq ∧ ∀ m : Nat, (m : Int) < k → halk (rdrop m wp) (rdrop m wq) := by
  rcases h with ⟨-, h⟩ | ⟨h, -⟩
  · exact h
  · exact absurd h h1
theorem siS_s {k n r : Int} {wp wq : Rw} {zx kx zy ky : Nat} {vx vy : Int} {lx rx ly ry : Rw} (hn : n = rI wq) (hp : n = rI wp) (h : ∀ m : Nat, (m : Int) < k → halk (rdrop m wp) (rdrop m wq)) (hk : 0 ≤ k ∧ k < n) (ex : rdrop k.toNat wp = .inner zx kx vx lx rx) (ey : rdrop k.toNat wq = .inner zy ky vy ly ry) (hr : (r = 1 ∧ ialk kx vx lx ky vy ly) ∨ (r = 0 ∧ ¬ ialk kx vx lx ky vy ly)) : siS r (k + 1) n wp wq := by
  rcases hr with ⟨h1, h2⟩ | ⟨h1, h2⟩
  · refine Or.inl ⟨h1, hn, fun m hm => ?_⟩
    by_cases e : m = k.toNat
    · subst e
      rw [ex, ey]
      exact h2
    · exact h m (by omega)
  · refine Or.inr ⟨h1, fun hA => h2 ?_⟩
    have h3 := alk_hal hA k.toNat (by omega)
    rw [ex, ey] at h3
    exact h3
theorem siS_e {is9 k n : Int} {wp wq : Rw} (h : siS is9 k n wp wq) (hp : n = rI wp) (hk : is9 = 0 ∨ n ≤ k) : is9 = simV wp wq := by
  rcases h with ⟨h1, h2, h3⟩ | ⟨h1, h2⟩
  · rw [simV_1 (hal_alk (by omega) (fun m hm => h3 m (by omega))), h1]
  · rw [simV_0 h2, h1]
set_option maxHeartbeats 4000000 in
set_option maxRecDepth 100000 in
theorem LX10_similar_104b {p : Program} {l : Launch} {e : Env} {R : Room} {s : State} {m : MethodId} {args : Array Value} {below : List Frame} {meth : Method} {c : Code} {cells slots : Nat} {Q : State → Prop} {dC : Nat → ClassId} {dI : Nat → Nat → Nat} {h0 : Nat} {cI cZ cII cIII : ClassId} (hx : p.tables.exec = Jvm.exec) (hb : c.code = cX10_similar) (hml : c.maxLocals = 7) (hown : s.vm.findClass RX10 = some m.cls) (hts : ∀ w ∈ wsG, w.before args s = true) (hK : va_K (dC, dI) vwCl (mT cI cZ cII cIII) s) (hRf : 24 ≤ R.frames) (hRl : 727 ≤ R.locals) (hRc : cells ≤ R.cells) (hRs : slots ≤ R.slots) (μ0 : va_M) (pp : Int) (pq : Int) (n : Int) (wp : Rw) (wq : Rw) (hpp : 0 ≤ pp ∧ pp < 8) (hpq : 0 ≤ pq ∧ pq < 8) (hn : n = rI wp) (hwp : rPage wp) (hwq : rPage wq) (hTp : TR μ0 (17 + pp.toNat) wp) (hTq : TR μ0 (17 + pq.toNat) wq) (hr1 : ∀ m : Nat, m < rI wp → μ0 723 m = rO wp m) (hr2 : ∀ m : Nat, m < rI wq → μ0 738 m = rO wq m) (hexit153 : ∀ (is9 : Int) (k : Int) (μ : va_M) (H : Heap) (locs : List Loc) (ls : Array Slot), (μ = μ0) → (is9 = simV wp wq) → va_P (dC, dI) vwCl (fw (mE cI cZ cII cIII h0) h0 6325 μ) H → va_S (fA h0 6325 s.heap.size) s.heap H locs → lv_has ls 7 [(5, .int (iZ (is9)))] → W p l e R s m args below meth c H locs cells slots Q (F0 m 153 ls [])) :
    ∀ (n9 : Nat) (is9 : Int) (k : Int) (μ : va_M) (H : Heap) (locs : List Loc) (ls : Array Slot), (μ = μ0) → (0 ≤ k ∧ k ≤ n) → (0 ≤ is9 ∧ is9 ≤ 1) → (siS is9 k n wp wq) → (300 - k).toNat < n9 → va_P (dC, dI) vwCl (fw (mE cI cZ cII cIII h0) h0 6325 μ) H → va_S (fA h0 6325 s.heap.size) s.heap H locs → lv_has ls 7 [(6, .int (iZ (k))), (5, .int (iZ (is9))), (3, .int (iZ (n))), (2, .int (iZ (pq))), (1, .int (iZ (pp))), (0, .ref h0)] → W p l e R s m args below meth c H locs cells slots Q (F0 m 104 ls []) := by
  intro n9
  induction n9 with
  | zero => intro is9 k μ H locs ls hm hk hi hb2 hm9 hP hS hl; exact absurd hm9 (Nat.not_lt_zero _)
  | succ n9 ih =>
    intro is9 k μ H locs ls hm hk hi hb2 hm9 hP hS hl
    subst hm
    have bp := rPage_b hwp
    have bq := rPage_b hwq
    refine lv_iload hx hb dX10_similar_104 (lv_at hl 0 rfl) ?_
    refine lv_iload_n hx hb dX10_similar_106 rfl (lv_at hl 2 rfl) ?_
    refine fz_icmp_ge (tgt := 153) (by constructor <;> omega) (by constructor <;> omega) hx hb dX10_similar_107 (by decide) (fun c107_ => ?_) (fun c107_ => ?_)
    · exact hexit153 (is9) (k) μ H locs ls (by rfl) (by exact siS_e hb2 hn (by omega)) hP hS (lv_sub hl [1] rfl)
    · refine lv_iload hx hb dX10_similar_110 (lv_at hl 1 rfl) ?_
      refine fz_if_eq (tgt := 153) (by constructor <;> omega) hx hb dX10_similar_112 (by decide) (fun c112_ => ?_) (fun c112_ => ?_)
      · exact hexit153 (is9) (k) μ H locs ls (by rfl) (by exact siS_e hb2 hn (by omega)) hP hS (lv_sub hl [1] rfl)
      · obtain ⟨hnq, hal9⟩ := siS_1 hb2 (by omega)
        have o1 := hr1 k.toNat (by omega)
        have o2 := hr2 k.toNat (by omega)
        have l1 := rO_lt (w := wp) (k := k.toNat) (by omega)
        have l2 := rO_lt (w := wq) (k := k.toNat) (by omega)
        obtain ⟨zx, kx, vx, wx, rx, ex⟩ := rdrop_in (w := wp) (m := k.toNat) (by omega)
        obtain ⟨zy, ky, vy, wy, ry, ey⟩ := rdrop_in (w := wq) (m := k.toNat) (by omega)
        have gx := RA_drop k.toNat wp 0 hTp.2
        have gy := RA_drop k.toNat wq 0 hTq.2
        rw [ex, Nat.zero_add] at gx
        rw [ey, Nat.zero_add] at gy
        obtain ⟨x1, x2, x3, x4, -⟩ := gx
        obtain ⟨y1, y2, y3, y4, -⟩ := gy
        have fx := rdrop_WF k.toNat wp hwp.1
        have fy := rdrop_WF k.toNat wq hwq.1
        have hx9 := rdrop_H k.toNat wp
        have hy := rdrop_H k.toNat wq
        have nx := rdrop_N k.toNat wp
        have ny := rdrop_N k.toNat wq
        rw [ex] at fx hx9 nx
        rw [ey] at fy hy ny
        rw [rH_in] at hx9 hy
        rw [rN_in] at nx ny
        obtain ⟨a1, a2, a3, a4, a5, a6, a7, a8⟩ := fx
        obtain ⟨b1, b2, b3, b4, b5, b6, b7, b8⟩ := fy
        have e1 : (17 + pp).toNat = 17 + pp.toNat := by omega
        have e2 : (17 + pq).toNat = 17 + pq.toNat := by omega
        have hTp9 := hTp
        have hTq9 := hTq
        refine lv_aload_n hx hb dX10_similar_115 rfl (lv_at hl 5 rfl) ?_
        refine lv_bipush (v := iZ 17) hx hb dX10_similar_116 rfl ?_
        refine lv_iload_n hx hb dX10_similar_118 rfl (lv_at hl 4 rfl) ?_
        refine lv_iadd hx hb dX10_similar_119 ?_
        refine lv_topi (fun x9 ex9 => ?_)
        obtain rfl : x9 = iZ (17 + pp) := ex9.trans (iZ_add _ _)
        refine lv_aload_n hx hb dX10_similar_120 rfl (lv_at hl 5 rfl) ?_
        refine fz_get (D := (dC, dI)) (ci := 10) (v := .ref (h0 + 722)) (C := RX10) (T := TX10) (N := 53) hx hb hts inG10 hown hK hP (k := 0) (by decide) (F := mF h0) mE_obj rfl 29 (by decide) (hts _ k1195) (fun _ h9 => h9) rfl dX10_similar_121 ?_
        refine lv_iconst (v := iZ 0) hx hb dX10_similar_124 rfl ?_
        refine fz_ald (k := 722) (n := 14) (k2 := (723 + 0)) hx hb hK hP 2 rfl (by decide) mE_rowS rfl ⟨by omega, by omega⟩ (by decide) (if_pos (by omega)) dX10_similar_125 ?_
        refine lv_iload hx hb dX10_similar_126 (lv_at hl 0 rfl) ?_
        refine fz_ld (k := (723 + 0)) (n := 260) hx hb hK hP 0 (by omega) (mE_rowSR (by omega)) rfl ⟨by omega, by omega⟩ (by decide) dX10_similar_128 ?_
        rw [show μ (723 + 0) (k).toNat = (rO wp k.toNat : Int) from (by exact o1)]
        refine lv_bipush (v := iZ 17) hx hb dX10_similar_129 rfl ?_
        refine lv_iload_n hx hb dX10_similar_131 rfl (lv_at hl 3 rfl) ?_
        refine lv_iadd hx hb dX10_similar_132 ?_
        refine lv_topi (fun x9 ex9 => ?_)
        obtain rfl : x9 = iZ (17 + pq) := ex9.trans (iZ_add _ _)
        refine lv_aload_n hx hb dX10_similar_133 rfl (lv_at hl 5 rfl) ?_
        refine fz_get (D := (dC, dI)) (ci := 10) (v := .ref (h0 + 737)) (C := RX10) (T := TX10) (N := 53) hx hb hts inG10 hown hK hP (k := 0) (by decide) (F := mF h0) mE_obj rfl 30 (by decide) (hts _ k1196) (fun _ h9 => h9) rfl dX10_similar_134 ?_
        refine lv_iconst (v := iZ 0) hx hb dX10_similar_137 rfl ?_
        refine fz_ald (k := 737) (n := 14) (k2 := (738 + 0)) hx hb hK hP 2 rfl (by decide) mE_rowP rfl ⟨by omega, by omega⟩ (by decide) (if_pos (by omega)) dX10_similar_138 ?_
        refine lv_iload hx hb dX10_similar_139 (lv_at hl 0 rfl) ?_
        refine fz_ld (k := (738 + 0)) (n := 260) hx hb hK hP 0 (by omega) (mE_rowPR (by omega)) rfl ⟨by omega, by omega⟩ (by decide) dX10_similar_141 ?_
        rw [show μ (738 + 0) (k).toNat = (rO wq k.toNat : Int) from (by exact o2)]
        refine va_calli (va_runV (As := [.int (iZ (17 + pp)), .int (iZ ((rO wp k.toNat : Int))), .int (iZ (17 + pq)), .int (iZ ((rO wq k.toNat : Int)))]) (rest := []) ⟨hx, hb, hml, hown, hts⟩ (m_areAlike l dC dI cI cZ cII cIII h0 (20) H.size μ (17 + pp) ((rO wp k.toNat : Int)) (17 + pq) ((rO wq k.toNat : Int)) (kx) (vx) (wx) (ky) (vy) (wy) (by omega) (by omega) (by omega) (by omega) (by rw [e1]; exact ⟨x1, x2, x3, x4⟩) (by rw [e2]; exact ⟨y1, y2, y3, y4⟩) (by exact ⟨a1, a2, a3, a4, a5, a6, a7⟩) (by exact ⟨b1, b2, b3, b4, b5, b6, b7⟩) (by omega)) (cwV 4 hts (gV_G k1397 k1399 ks_yX10_areAlike k13 k1400) rfl rfl rfl (by decide +kernel) ⟨by show 23 + 1 ≤ _; omega, by show 8 + (8 + 11) + (700) ≤ _; omega⟩) ⟨fun a U g mk q => by obtain ⟨q0, q1, qP, qK⟩ := q; exact ⟨q0, q1, qP, va_K.moved (u := U) (U := U.calling g mk a) (Vm.Alike.refl U.vm) qK⟩, va_recv hK hP (ci := 10) (q0 := 0) rfl ((fw_get (by decide)).trans (by rw [mE_obj]; rfl)), fun U hU hW => ⟨rfl, by rw [hU], by rw [hU]; exact hP, va_K.moved hW.alike hK⟩⟩ rfl rfl hl.1 rfl (lv_room (Nat.le_of_ble_eq_true rfl)) dX10_similar_142 ⟨hRc, hRs⟩) hS (fun q _ h => fA_le hS.1 q h) (fA_le hS.1) (fun r9 u9 t9 H1 locs ht9 hvm9 hw9 hB9 hz9 hk9 hS => ?_)
        obtain ⟨μr, rr⟩ := u9
        obtain ⟨hP, -⟩ := hB9
        rw [ht9] at hP
        generalize H1 = H at hP hS ⊢
        obtain ⟨e9, hw9⟩ := hw9
        have e9 : r9 = iZ rr := e9
        subst e9
        simp only at hP hw9
        have hμr := hw9; clear hw9
        rw [hμr.1] at hP; have hμr := hμr.2
        have hrr := hμr
        have hr01 : rr = 0 ∨ rr = 1 := hrr.elim (fun h => Or.inr h.1) (fun h => Or.inl h.1)
        refine lv_istore (lv' := [(5, .int (iZ (rr))), (6, .int (iZ (k))), (3, .int (iZ (n))), (2, .int (iZ (pq))), (1, .int (iZ (pp))), (0, .ref h0)]) hx hb dX10_similar_145 hl (by decide) rfl (fun ls hl => ?_)
        refine lv_iinc (v := iZ (k + 1)) (lv' := [(6, .int (iZ (k + 1))), (5, .int (iZ (rr))), (3, .int (iZ (n))), (2, .int (iZ (pq))), (1, .int (iZ (pp))), (0, .ref h0)]) hx hb dX10_similar_147 hl (k := 1) rfl (iZ_add _ _) (by decide) rfl (fun ls hl => ?_)
        refine lv_goto (tgt := 104) hx hb dX10_similar_150 (by decide) ?_
        exact ih (rr) (k + 1) μ H locs ls (by rfl) (by omega) (by omega) (by exact siS_s hnq hn hal9 (by omega) ex ey hrr) (by omega) hP hS (lv_sub hl [0, 1, 2, 3, 4, 5] rfl)
set_option maxHeartbeats 4000000 in
set_option maxRecDepth 100000 in
theorem f_similar (l : Launch) (dC : Nat → ClassId) (dI : Nat → Nat → Nat) (cI cZ cII cIII : ClassId) (h0 sz : Nat) (μ : va_M) (pp : Int) (pq : Int) (wp : Rw) (wq : Rw) (hQ : RQ μ) (hp : inR pp) (hq : inR pq) (hwp : 0 ≤ pp ∧ pp < μ 0 10 → TR μ (17 + pp.toNat) wp ∧ rPage wp) (hwq : 0 ≤ pq ∧ pq < μ 0 10 → TR μ (17 + pq.toNat) wq ∧ rPage wq) : Met l yX10_similar (Cond.code yX10_similar cX10_similar 7 (some .boolean) :: wsG) ({ frames := 24, cells := 0, slots := 0, locals := 727 } : Room) (va_Pc [.ref h0, .int (iZ (pp)), .int (iZ (pq))] (fun U => U.heap.size = sz ∧ va_P (dC, dI) vwCl (fw (mE cI cZ cII cIII h0) h0 6325 μ) U.heap ∧ va_K (dC, dI) vwCl (mT cI cZ cII cIII) U)) (va_Qi (fun (r9 : Int32) (u : va_M × Int) => r9 = iZ u.2 ∧ (fun (u : va_M) (r : Int) => (fr PS μ u ∧ (u 0 0 = 0 ∨ u 0 0 = 1 ∨ u 0 0 = 2)) ∧ u 0 0 = cd2 ((0 ≤ pp ∧ pp < μ 0 10) ∧ 0 ≤ pq ∧ pq < μ 0 10) True ∧ (cd2 ((0 ≤ pp ∧ pp < μ 0 10) ∧ 0 ≤ pq ∧ pq < μ 0 10) True = 0 → r = simV wp wq)) u.1 u.2) (fun u t => va_P (dC, dI) vwCl (fw (mE cI cZ cII cIII h0) h0 6325 u.1) t.heap ∧ va_K (dC, dI) vwCl (mT cI cZ cII cIII) t) (fA h0 6325 sz)) 0 0 (fA h0 6325 sz) := by
  refine Met.ofW (cc := cX10_similar) (maxL := 7) (ret := (some .boolean)) (by decide) rfl ?_
  intro p e s m args below meth c s₁ B hml hv
  obtain ⟨rfl, hsz, hP, hK⟩ := hv
  have hx := B.exec
  have hb := B.bytes
  have hr := B.returns
  have hts : ∀ w ∈ wsG, w.before _ s = true := hG_of (atoms_spec (ws := (Cond.code yX10_similar cX10_similar 7 (some .boolean) :: wsG)) B.pre)
  have hown : s.vm.findClass RX10 = some m.cls := findClass_of_methodNamed B.named
  have hlocks := B.notSynchronized
  subst hsz
  have hS : va_S (fA h0 6325 s.heap.size) s.heap s.heap [] := va_S.rf
  have hl := lv_entry ([.ref h0, .int (iZ (pp)), .int (iZ (pq))]) (n := 7) (Nat.le_of_ble_eq_true rfl)
  rw [lg_entry_eq]
  generalize (lg_sl ([.ref h0, .int (iZ (pp)), .int (iZ (pq))]) ++ List.replicate (7 - (lg_sl ([.ref h0, .int (iZ (pp)), .int (iZ (pq))])).length) Slot.unset).toArray = ls at hl ⊢
  have hl : lv_has ls 7 [(0, .ref h0), (1, .int (iZ (pp))), (2, .int (iZ (pq)))] := hl
  refine lv_aload_n hx hb dX10_similar_0 rfl (lv_at hl 0 rfl) ?_
  refine lv_iconst (v := iZ 0) hx hb dX10_similar_1 rfl ?_
  refine fz_put (D := (dC, dI)) (ci := 10) (ty := .int) (z := 0) (C := RX10) (T := TX10) (N := 53) hx hb hts inG10 tyX10 tyX10_ok nmX10 hown hK hP fA_in hS (k := 0) (by decide) (F := mF h0) mE_obj rfl 0 (by decide) (hts _ k1166) (fun _ h9 => h9) rfl (by decide +kernel) rfl rfl (fun _ => Nat.le_of_ble_eq_true rfl) (fun _ _ => rfl) dX10_similar_2 (fun H locs hP hS => ?_)
  obtain ⟨μ1, eμ1⟩ : ∃ x : va_M, x = uz μ 0 0 (0) := ⟨_, rfl⟩
  rw [← eμ1] at hP
  have hfr : fr PS μ μ1 := by rw [eμ1]; exact fr_uz fr_rfl (by unfold PS; omega)
  have ht0 : μ1 0 0 = 0 := by rw [eμ1, uz_s]
  have e10 := hfr 0 10 (PS_n (by omega))
  have e9 := hfr 0 9 (PS_n (by omega))
  have e71 := hfr 719 0 (PS_n (by omega))
  have hQ1 := RQ_fr hQ hfr
  have hQc := hQ
  obtain ⟨f10, ⟨fT, fTb, fTw⟩, fS3, fPg, fw9, fwB, fwT⟩ := hQc
  obtain ⟨g10, ⟨gT, gTb, gTw⟩, gS3, gPg, gw, gwB, gwT⟩ := hQ1
  have gtk := TR_tok gwT gwB.1 gwB.2.1
  have gt1 := gtk.1
  have gt2 := gtk.2.1
  refine lv_aload_n hx hb dX10_similar_5 rfl (lv_at hl 0 rfl) ?_
  refine lv_aload_n hx hb dX10_similar_6 rfl (lv_at hl 0 rfl) ?_
  refine lv_iload_n hx hb dX10_similar_7 rfl (lv_at hl 1 rfl) ?_
  refine va_calli (va_runV (As := [.int (iZ (pp))]) (rest := [.ref h0]) ⟨hx, hb, hml, hown, hts⟩ (m_isPage l dC dI cI cZ cII cIII h0 H.size μ1 (pp) (by first | assumption | omega | exact ⟨by omega, by omega⟩) (by first | assumption | omega | exact ⟨by omega, by omega⟩)) (cwV 1 hts (gV_G k1588 k1590 ks_yX10_isPage k13 k1591) rfl rfl rfl (by decide +kernel) ⟨Nat.le_of_ble_eq_true rfl, Nat.le_of_ble_eq_true rfl⟩) ⟨fun a U g mk q => by obtain ⟨q0, q1, qP, qK⟩ := q; exact ⟨q0, q1, qP, va_K.moved (u := U) (U := U.calling g mk a) (Vm.Alike.refl U.vm) qK⟩, va_recv hK hP (ci := 10) (q0 := 0) rfl ((fw_get (by decide)).trans (by rw [mE_obj]; rfl)), fun U hU hW => ⟨rfl, by rw [hU], by rw [hU]; exact hP, va_K.moved hW.alike hK⟩⟩ rfl rfl hl.1 rfl (lv_room (Nat.le_of_ble_eq_true rfl)) dX10_similar_8 ⟨Nat.le_of_ble_eq_true rfl, Nat.le_of_ble_eq_true rfl⟩) hS (fun q _ h => fA_le hS.1 q h) (fA_le hS.1) (fun r9 u9 t9 H1 locs ht9 hvm9 hw9 hB9 hz9 hk9 hS => ?_)
  obtain ⟨μ2, r3⟩ := u9
  obtain ⟨hP, -⟩ := hB9
  rw [ht9] at hP
  generalize H1 = H at hP hS ⊢
  obtain ⟨e9, hw9⟩ := hw9
  have e9 : r9 = iZ r3 := e9
  subst e9
  simp only at hP hw9
  have hμ2 := hw9; clear hw9
  rw [hμ2.1] at hP; have hμ2 := hμ2.2
  have hip := hμ2
  have hip2 := if_01 hμ2
  refine fz_if_eq (tgt := 22) (by constructor <;> omega) hx hb dX10_similar_11 (by decide) (fun c11_ => ?_) (fun c11_ => ?_)
  · have hpn := if_not hip (by omega)
    refine lv_iconst (v := iZ 1) hx hb dX10_similar_22 rfl ?_
    refine lv_goto (tgt := 27) hx hb dX10_similar_23 (by decide) ?_
    refine lv_iconst (v := iZ 1) hx hb dX10_similar_27 rfl ?_
    refine lv_iconst (v := iZ 0) hx hb dX10_similar_28 rfl ?_
    refine va_calli (va_runV (As := [.int (iZ (1)), .int (iZ (1)), .int (iZ (0))]) (rest := []) ⟨hx, hb, hml, hown, hts⟩ (m_bad2 l dC dI cI cZ cII cIII h0 H.size μ1 (1) (1) (0) (by first | assumption | omega | exact ⟨by omega, by omega⟩) (by first | assumption | omega | exact ⟨by omega, by omega⟩) (by first | assumption | omega | exact ⟨by omega, by omega⟩) (by first | assumption | omega | exact ⟨by omega, by omega⟩)) (cwV 3 hts (gV_G k1342 k1344 ks_yX10_bad k13 k1345) rfl rfl rfl (by decide +kernel) ⟨Nat.le_of_ble_eq_true rfl, Nat.le_of_ble_eq_true rfl⟩) ⟨fun a U g mk q => by obtain ⟨q0, q1, qP, qK⟩ := q; exact ⟨q0, q1, qP, va_K.moved (u := U) (U := U.calling g mk a) (Vm.Alike.refl U.vm) qK⟩, va_recv hK hP (ci := 10) (q0 := 0) rfl ((fw_get (by decide)).trans (by rw [mE_obj]; rfl)), fun U hU hW => ⟨rfl, by rw [hU], by rw [hU]; exact hP, va_K.moved hW.alike hK⟩⟩ rfl rfl hl.1 rfl (lv_room (Nat.le_of_ble_eq_true rfl)) dX10_similar_29 ⟨Nat.le_of_ble_eq_true rfl, Nat.le_of_ble_eq_true rfl⟩) hS (fun q _ h => fA_le hS.1 q h) (fA_le hS.1) (fun r9 u9 t9 H1 locs ht9 hvm9 hw9 hB9 hz9 hk9 hS => ?_)
    obtain ⟨μ4, r5⟩ := u9
    obtain ⟨hP, -⟩ := hB9
    rw [ht9] at hP
    generalize H1 = H at hP hS ⊢
    obtain ⟨e9, hw9⟩ := hw9
    have e9 : r9 = iZ r5 := e9
    subst e9
    simp only at hP hw9
    have hμ4 := hw9; clear hw9
    have hfr := fr_trans hfr (badP_fr hμ4)
    have hrb := badP_r hμ4
    obtain rfl : r5 = 1 := by omega
    refine fz_if_eq (tgt := 37) (by decide) hx hb dX10_similar_32 (by decide) (fun h9 => absurd h9 (by decide)) (fun c32_ => ?_)
    refine lv_iconst (v := iZ 0) hx hb dX10_similar_35 rfl ?_
    exact W.zret (v := iZ (0)) hx hb hr (by decide +kernel) (fun t9 ht9 hW9 => ⟨⟨iZ (0), (μ4, 0), rfl, ⟨rfl, (by
                dsimp only
                have cd9 : cd2 ((0 ≤ pp ∧ pp < μ 0 10) ∧ 0 ≤ pq ∧ pq < μ 0 10) True = 1 := cd2_1 (by omega)
                exact ⟨⟨hfr, by omega⟩, by omega, fun hc => absurd (cd9.symm.trans hc) (by decide)⟩)⟩, by rw [ht9]; exact hP, va_K.moved hW9.alike hK⟩, hS.F ht9⟩) hS.2.2 dX10_similar_36
  · have hpp := if_get hip (by omega)
    refine lv_aload_n hx hb dX10_similar_14 rfl (lv_at hl 0 rfl) ?_
    refine lv_iload_n hx hb dX10_similar_15 rfl (lv_at hl 2 rfl) ?_
    refine va_calli (va_runV (As := [.int (iZ (pq))]) (rest := [.ref h0]) ⟨hx, hb, hml, hown, hts⟩ (m_isPage l dC dI cI cZ cII cIII h0 H.size μ1 (pq) (by first | assumption | omega | exact ⟨by omega, by omega⟩) (by first | assumption | omega | exact ⟨by omega, by omega⟩)) (cwV 1 hts (gV_G k1588 k1590 ks_yX10_isPage k13 k1591) rfl rfl rfl (by decide +kernel) ⟨Nat.le_of_ble_eq_true rfl, Nat.le_of_ble_eq_true rfl⟩) ⟨fun a U g mk q => by obtain ⟨q0, q1, qP, qK⟩ := q; exact ⟨q0, q1, qP, va_K.moved (u := U) (U := U.calling g mk a) (Vm.Alike.refl U.vm) qK⟩, va_recv hK hP (ci := 10) (q0 := 0) rfl ((fw_get (by decide)).trans (by rw [mE_obj]; rfl)), fun U hU hW => ⟨rfl, by rw [hU], by rw [hU]; exact hP, va_K.moved hW.alike hK⟩⟩ rfl rfl hl.1 rfl (lv_room (Nat.le_of_ble_eq_true rfl)) dX10_similar_16 ⟨Nat.le_of_ble_eq_true rfl, Nat.le_of_ble_eq_true rfl⟩) hS (fun q _ h => fA_le hS.1 q h) (fA_le hS.1) (fun r9 u9 t9 H1 locs ht9 hvm9 hw9 hB9 hz9 hk9 hS => ?_)
    obtain ⟨μ6, r7⟩ := u9
    obtain ⟨hP, -⟩ := hB9
    rw [ht9] at hP
    generalize H1 = H at hP hS ⊢
    obtain ⟨e9, hw9⟩ := hw9
    have e9 : r9 = iZ r7 := e9
    subst e9
    simp only at hP hw9
    have hμ6 := hw9; clear hw9
    rw [hμ6.1] at hP; have hμ6 := hμ6.2
    have hjn := hμ6
    have hjn2 := if_01 hμ6
    refine fz_if_ne (tgt := 26) (by constructor <;> omega) hx hb dX10_similar_19 (by decide) (fun c19_ => ?_) (fun c19_ => ?_)
    · have hqq := if_get hjn (by omega)
      refine lv_iconst (v := iZ 0) hx hb dX10_similar_26 rfl ?_
      refine lv_iconst (v := iZ 1) hx hb dX10_similar_27 rfl ?_
      refine lv_iconst (v := iZ 0) hx hb dX10_similar_28 rfl ?_
      refine va_calli (va_runV (As := [.int (iZ (0)), .int (iZ (1)), .int (iZ (0))]) (rest := []) ⟨hx, hb, hml, hown, hts⟩ (m_bad2 l dC dI cI cZ cII cIII h0 H.size μ1 (0) (1) (0) (by first | assumption | omega | exact ⟨by omega, by omega⟩) (by first | assumption | omega | exact ⟨by omega, by omega⟩) (by first | assumption | omega | exact ⟨by omega, by omega⟩) (by first | assumption | omega | exact ⟨by omega, by omega⟩)) (cwV 3 hts (gV_G k1342 k1344 ks_yX10_bad k13 k1345) rfl rfl rfl (by decide +kernel) ⟨Nat.le_of_ble_eq_true rfl, Nat.le_of_ble_eq_true rfl⟩) ⟨fun a U g mk q => by obtain ⟨q0, q1, qP, qK⟩ := q; exact ⟨q0, q1, qP, va_K.moved (u := U) (U := U.calling g mk a) (Vm.Alike.refl U.vm) qK⟩, va_recv hK hP (ci := 10) (q0 := 0) rfl ((fw_get (by decide)).trans (by rw [mE_obj]; rfl)), fun U hU hW => ⟨rfl, by rw [hU], by rw [hU]; exact hP, va_K.moved hW.alike hK⟩⟩ rfl rfl hl.1 rfl (lv_room (Nat.le_of_ble_eq_true rfl)) dX10_similar_29 ⟨Nat.le_of_ble_eq_true rfl, Nat.le_of_ble_eq_true rfl⟩) hS (fun q _ h => fA_le hS.1 q h) (fA_le hS.1) (fun r9 u9 t9 H1 locs ht9 hvm9 hw9 hB9 hz9 hk9 hS => ?_)
      obtain ⟨μ8, r10⟩ := u9
      obtain ⟨hP, -⟩ := hB9
      rw [ht9] at hP
      generalize H1 = H at hP hS ⊢
      obtain ⟨e9, hw9⟩ := hw9
      have e9 : r9 = iZ r10 := e9
      subst e9
      simp only at hP hw9
      have hμ8 := hw9; clear hw9
      have hfr := fr_trans hfr (badP_fr hμ8)
      have hrb := badP_r hμ8
      obtain rfl : r10 = 0 := by omega
      refine fz_if_eq (tgt := 37) (by decide) hx hb dX10_similar_32 (by decide) (fun c32_ => ?_) (fun h9 => absurd h9 (by decide))
      have hQ2 := RQ_fr hQ hfr
      obtain ⟨k10, ⟨kT, kTb, kTw⟩, kS3, kPg, kw, kwB, kwT⟩ := hQ2
      have e10k := hfr 0 10 (PS_n (by omega))
      have e9k := hfr 0 9 (PS_n (by omega))
      have e71k := hfr 719 0 (PS_n (by omega))
      have ktk := TR_tok kwT kwB.1 kwB.2.1
      have kt1 := ktk.1
      have kt2 := ktk.2.1
      obtain ⟨pw3, pw1⟩ := hwp (by omega)
      obtain ⟨rw4, rw2⟩ := hwq (by omega)
      have pw3 := TR_PS pw3 hfr (by omega)
      have rw4 := TR_PS rw4 hfr (by omega)
      have bp := rPage_b pw1
      have bq := rPage_b rw2
      have e1 : (17 + pp).toNat = 17 + pp.toNat := by omega
      have e2 : (17 + pq).toNat = 17 + pq.toNat := by omega
      have np := pw3.1
      have nq := rw4.1
      refine lv_aload_n hx hb dX10_similar_37 rfl (lv_at hl 0 rfl) ?_
      refine lv_bipush (v := iZ 17) hx hb dX10_similar_38 rfl ?_
      refine lv_iload_n hx hb dX10_similar_40 rfl (lv_at hl 1 rfl) ?_
      refine lv_iadd hx hb dX10_similar_41 ?_
      refine lv_topi (fun x9 ex9 => ?_)
      obtain rfl : x9 = iZ (17 + pp) := ex9.trans (iZ_add _ _)
      refine lv_iconst (v := iZ 0) hx hb dX10_similar_42 rfl ?_
      refine lv_aload_n hx hb dX10_similar_43 rfl (lv_at hl 0 rfl) ?_
      refine fz_get (D := (dC, dI)) (ci := 10) (v := .ref (h0 + 719)) (C := RX10) (T := TX10) (N := 53) hx hb hts inG10 hown hK hP (k := 0) (by decide) (F := mF h0) mE_obj rfl 21 (by decide) (hts _ k1187) (fun _ h9 => h9) rfl dX10_similar_44 ?_
      refine lv_bipush (v := iZ 17) hx hb dX10_similar_47 rfl ?_
      refine lv_iload_n hx hb dX10_similar_49 rfl (lv_at hl 1 rfl) ?_
      refine lv_iadd hx hb dX10_similar_50 ?_
      refine lv_topi (fun x9 ex9 => ?_)
      obtain rfl : x9 = iZ (17 + pp) := ex9.trans (iZ_add _ _)
      refine fz_ld (k := 719) (n := 70) hx hb hK hP 0 (by decide) mE_nodes rfl ⟨by omega, by omega⟩ (by decide) dX10_similar_51 ?_
      refine lv_aload_n hx hb dX10_similar_52 rfl (lv_at hl 0 rfl) ?_
      refine fz_get (D := (dC, dI)) (ci := 10) (v := .ref (h0 + 722)) (C := RX10) (T := TX10) (N := 53) hx hb hts inG10 hown hK hP (k := 0) (by decide) (F := mF h0) mE_obj rfl 29 (by decide) (hts _ k1195) (fun _ h9 => h9) rfl dX10_similar_53 ?_
      refine lv_iconst (v := iZ 0) hx hb dX10_similar_56 rfl ?_
      refine fz_ald (k := 722) (n := 14) (k2 := (723 + 0)) hx hb hK hP 2 rfl (by decide) mE_rowS rfl ⟨by omega, by omega⟩ (by decide) (if_pos (by omega)) dX10_similar_57 ?_
      refine va_calli (va_runV (As := [.int (iZ (17 + pp)), .int (iZ (0)), .int (iZ (μ8 719 (17 + pp).toNat)), .ref (h0 + (723 + 0))]) (rest := []) ⟨hx, hb, hml, hown, hts⟩ (m_lists l dC dI cI cZ cII cIII h0 H.size μ8 (17 + pp) (0) (μ8 719 (17 + pp).toNat) ((723 + 0)) (wp) (by first | assumption | omega | exact ⟨by omega, by omega⟩) (by rw [e1]; omega) (by rw [e1]; omega) (by rw [e1]; exact pw3.2) (by exact Or.inl (by decide)) (by omega)) (cwV 4 hts (gV_G k1389 k1391 ks_yX10_lists k13 k1392) rfl rfl rfl (by decide +kernel) ⟨Nat.le_of_ble_eq_true rfl, Nat.le_of_ble_eq_true rfl⟩) ⟨fun a U g mk q => by obtain ⟨q0, q1, qP, qK⟩ := q; exact ⟨q0, q1, qP, va_K.moved (u := U) (U := U.calling g mk a) (Vm.Alike.refl U.vm) qK⟩, va_recv hK hP (ci := 10) (q0 := 0) rfl ((fw_get (by decide)).trans (by rw [mE_obj]; rfl)), fun U hU hW => ⟨rfl, by rw [hU], by rw [hU]; exact hP, va_K.moved hW.alike hK⟩⟩ rfl rfl hl.1 rfl (lv_room (Nat.le_of_ble_eq_true rfl)) dX10_similar_58 ⟨Nat.le_of_ble_eq_true rfl, Nat.le_of_ble_eq_true rfl⟩) hS (fun q _ h => fA_le hS.1 q h) (fA_le hS.1) (fun r9 u9 t9 H1 locs ht9 hvm9 hw9 hB9 hz9 hk9 hS => ?_)
      obtain ⟨μa, na⟩ := u9
      obtain ⟨hP, -⟩ := hB9
      rw [ht9] at hP
      generalize H1 = H at hP hS ⊢
      obtain ⟨e9, hw9⟩ := hw9
      have e9 : r9 = iZ na := e9
      subst e9
      simp only at hP hw9
      have hμa := hw9; clear hw9
      obtain ⟨a1, a2, a3⟩ := hμa
      have fa := fr_mono (P2 := PS) a3 (fun x y h => by unfold PS; omega)
      have nqa := fa 719 (17 + pq.toNat) (PS_n (by omega))
      refine lv_istore_n (lv' := [(3, .int (iZ (na))), (0, .ref h0), (1, .int (iZ (pp))), (2, .int (iZ (pq)))]) hx hb dX10_similar_61 rfl hl (by decide) rfl (fun ls hl => ?_)
      refine lv_aload_n hx hb dX10_similar_62 rfl (lv_at hl 1 rfl) ?_
      refine lv_bipush (v := iZ 17) hx hb dX10_similar_63 rfl ?_
      refine lv_iload_n hx hb dX10_similar_65 rfl (lv_at hl 3 rfl) ?_
      refine lv_iadd hx hb dX10_similar_66 ?_
      refine lv_topi (fun x9 ex9 => ?_)
      obtain rfl : x9 = iZ (17 + pq) := ex9.trans (iZ_add _ _)
      refine lv_iconst (v := iZ 0) hx hb dX10_similar_67 rfl ?_
      refine lv_aload_n hx hb dX10_similar_68 rfl (lv_at hl 1 rfl) ?_
      refine fz_get (D := (dC, dI)) (ci := 10) (v := .ref (h0 + 719)) (C := RX10) (T := TX10) (N := 53) hx hb hts inG10 hown hK hP (k := 0) (by decide) (F := mF h0) mE_obj rfl 21 (by decide) (hts _ k1187) (fun _ h9 => h9) rfl dX10_similar_69 ?_
      refine lv_bipush (v := iZ 17) hx hb dX10_similar_72 rfl ?_
      refine lv_iload_n hx hb dX10_similar_74 rfl (lv_at hl 3 rfl) ?_
      refine lv_iadd hx hb dX10_similar_75 ?_
      refine lv_topi (fun x9 ex9 => ?_)
      obtain rfl : x9 = iZ (17 + pq) := ex9.trans (iZ_add _ _)
      refine fz_ld (k := 719) (n := 70) hx hb hK hP 0 (by decide) mE_nodes rfl ⟨by omega, by omega⟩ (by decide) dX10_similar_76 ?_
      refine lv_aload_n hx hb dX10_similar_77 rfl (lv_at hl 1 rfl) ?_
      refine fz_get (D := (dC, dI)) (ci := 10) (v := .ref (h0 + 737)) (C := RX10) (T := TX10) (N := 53) hx hb hts inG10 hown hK hP (k := 0) (by decide) (F := mF h0) mE_obj rfl 30 (by decide) (hts _ k1196) (fun _ h9 => h9) rfl dX10_similar_78 ?_
      refine lv_iconst (v := iZ 0) hx hb dX10_similar_81 rfl ?_
      refine fz_ald (k := 737) (n := 14) (k2 := (738 + 0)) hx hb hK hP 2 rfl (by decide) mE_rowP rfl ⟨by omega, by omega⟩ (by decide) (if_pos (by omega)) dX10_similar_82 ?_
      refine va_calli (va_runV (As := [.int (iZ (17 + pq)), .int (iZ (0)), .int (iZ (μa 719 (17 + pq).toNat)), .ref (h0 + (738 + 0))]) (rest := []) ⟨hx, hb, hml, hown, hts⟩ (m_lists l dC dI cI cZ cII cIII h0 H.size μa (17 + pq) (0) (μa 719 (17 + pq).toNat) ((738 + 0)) (wq) (by first | assumption | omega | exact ⟨by omega, by omega⟩) (by rw [e2]; omega) (by rw [e2]; omega) (by rw [e2]; exact (TR_PS rw4 fa (by omega)).2) (by exact Or.inr (by decide)) (by omega)) (cwV 4 hts (gV_G k1389 k1391 ks_yX10_lists k13 k1392) rfl rfl rfl (by decide +kernel) ⟨Nat.le_of_ble_eq_true rfl, Nat.le_of_ble_eq_true rfl⟩) ⟨fun a U g mk q => by obtain ⟨q0, q1, qP, qK⟩ := q; exact ⟨q0, q1, qP, va_K.moved (u := U) (U := U.calling g mk a) (Vm.Alike.refl U.vm) qK⟩, va_recv hK hP (ci := 10) (q0 := 0) rfl ((fw_get (by decide)).trans (by rw [mE_obj]; rfl)), fun U hU hW => ⟨rfl, by rw [hU], by rw [hU]; exact hP, va_K.moved hW.alike hK⟩⟩ rfl rfl hl.1 rfl (lv_room (Nat.le_of_ble_eq_true rfl)) dX10_similar_83 ⟨Nat.le_of_ble_eq_true rfl, Nat.le_of_ble_eq_true rfl⟩) hS (fun q _ h => fA_le hS.1 q h) (fA_le hS.1) (fun r9 u9 t9 H1 locs ht9 hvm9 hw9 hB9 hz9 hk9 hS => ?_)
      obtain ⟨μb, nb⟩ := u9
      obtain ⟨hP, -⟩ := hB9
      rw [ht9] at hP
      generalize H1 = H at hP hS ⊢
      obtain ⟨e9, hw9⟩ := hw9
      have e9 : r9 = iZ nb := e9
      subst e9
      simp only at hP hw9
      have hμb := hw9; clear hw9
      obtain ⟨b1, b2, b3⟩ := hμb
      have fb := fr_mono (P2 := PS) b3 (fun x y h => by unfold PS; omega)
      refine lv_istore (lv' := [(4, .int (iZ (nb))), (3, .int (iZ (na))), (0, .ref h0), (1, .int (iZ (pp))), (2, .int (iZ (pq)))]) hx hb dX10_similar_86 hl (by decide) rfl (fun ls hl => ?_)
      refine lv_iload_n hx hb dX10_similar_88 rfl (lv_at hl 1 rfl) ?_
      refine lv_iload hx hb dX10_similar_89 (lv_at hl 0 rfl) ?_
      refine fz_icmp_ne (tgt := 98) (by constructor <;> omega) (by constructor <;> omega) hx hb dX10_similar_91 (by decide) (fun c91_ => ?_) (fun c91_ => ?_)
      · refine lv_iconst (v := iZ 0) hx hb dX10_similar_98 rfl ?_
        refine lv_istore (lv' := [(5, .int (iZ (0))), (4, .int (iZ (nb))), (3, .int (iZ (na))), (0, .ref h0), (1, .int (iZ (pp))), (2, .int (iZ (pq)))]) hx hb dX10_similar_99 hl (by decide) rfl (fun ls hl => ?_)
        refine lv_iconst (v := iZ 0) hx hb dX10_similar_101 rfl ?_
        refine lv_istore (lv' := [(6, .int (iZ (0))), (5, .int (iZ (0))), (4, .int (iZ (nb))), (3, .int (iZ (na))), (0, .ref h0), (1, .int (iZ (pp))), (2, .int (iZ (pq)))]) hx hb dX10_similar_102 hl (by decide) rfl (fun ls hl => ?_)
        refine LX10_similar_104b hx hb hml hown hts hK (Nat.le_of_ble_eq_true rfl) (Nat.le_of_ble_eq_true rfl) (Nat.le_of_ble_eq_true rfl) (Nat.le_of_ble_eq_true rfl) (μb) (pp) (pq) (na) (wp) (wq) (by omega) (by omega) (by exact a1) (by exact pw1) (by exact rw2) (by exact TR_PS (TR_PS pw3 fa (by omega)) fb (by omega)) (by exact TR_PS (TR_PS rw4 fa (by omega)) fb (by omega)) (by intro m hm; rw [b3 723 m (by show ¬ (723 = 738); decide)]; have h9 : μa 723 m = 0 + (rO wp m : Int) := a2 m hm; omega) (by intro m hm; have h9 : μb 738 m = 0 + (rO wq m : Int) := b2 m hm; omega) ?_ _ (0) (0) μb H locs ls (by rfl) (by omega) (by omega) (by exact Or.inr ⟨by omega, fun hA => by have := ralk_rI _ _ hA; omega⟩) (Nat.lt_succ_self _) hP hS (lv_sub hl [0, 1, 3, 6, 5, 4] rfl)
        · intro is9_11 k_11 μ11_ H locs ls q1_11 q2_11 hP hS hl
          have hl : lv_has ls 7 [(5, .int (iZ (is9_11)))] := hl
          refine lv_iload hx hb dX10_similar_153 (lv_at hl 0 rfl) ?_
          exact W.zret (v := iZ (is9_11)) hx hb hr (by exact fz_narZ (by rw [q2_11]; exact simV_c wp wq)) (fun t9 ht9 hW9 => ⟨⟨iZ (is9_11), (μ11_, is9_11), rfl, ⟨rfl, (by
                            dsimp only
                            rw [q1_11]
                            have ff := fr_trans hfr (fr_trans fa fb)
                            have e00 := a3 0 0 (by show ¬ (0 = 723); decide)
                            have e01 := b3 0 0 (by show ¬ (0 = 738); decide)
                            have cd9 : cd2 ((0 ≤ pp ∧ pp < μ 0 10) ∧ 0 ≤ pq ∧ pq < μ 0 10) True = 0 := cd2_0 (by omega) trivial
                            exact ⟨⟨ff, by omega⟩, by omega, fun _ => q2_11⟩)⟩, by rw [ht9]; exact hP, va_K.moved hW9.alike hK⟩, hS.F ht9⟩) hS.2.2 dX10_similar_155
      · refine lv_iconst (v := iZ 1) hx hb dX10_similar_94 rfl ?_
        refine lv_goto (tgt := 99) hx hb dX10_similar_95 (by decide) ?_
        refine lv_istore (lv' := [(5, .int (iZ (1))), (4, .int (iZ (nb))), (3, .int (iZ (na))), (0, .ref h0), (1, .int (iZ (pp))), (2, .int (iZ (pq)))]) hx hb dX10_similar_99 hl (by decide) rfl (fun ls hl => ?_)
        refine lv_iconst (v := iZ 0) hx hb dX10_similar_101 rfl ?_
        refine lv_istore (lv' := [(6, .int (iZ (0))), (5, .int (iZ (1))), (4, .int (iZ (nb))), (3, .int (iZ (na))), (0, .ref h0), (1, .int (iZ (pp))), (2, .int (iZ (pq)))]) hx hb dX10_similar_102 hl (by decide) rfl (fun ls hl => ?_)
        refine LX10_similar_104b hx hb hml hown hts hK (Nat.le_of_ble_eq_true rfl) (Nat.le_of_ble_eq_true rfl) (Nat.le_of_ble_eq_true rfl) (Nat.le_of_ble_eq_true rfl) (μb) (pp) (pq) (na) (wp) (wq) (by omega) (by omega) (by exact a1) (by exact pw1) (by exact rw2) (by exact TR_PS (TR_PS pw3 fa (by omega)) fb (by omega)) (by exact TR_PS (TR_PS rw4 fa (by omega)) fb (by omega)) (by intro m hm; rw [b3 723 m (by show ¬ (723 = 738); decide)]; have h9 : μa 723 m = 0 + (rO wp m : Int) := a2 m hm; omega) (by intro m hm; have h9 : μb 738 m = 0 + (rO wq m : Int) := b2 m hm; omega) ?_ _ (1) (0) μb H locs ls (by rfl) (by omega) (by omega) (by exact Or.inl ⟨by omega, by omega, fun m hm9 => by omega⟩) (Nat.lt_succ_self _) hP hS (lv_sub hl [0, 1, 3, 6, 5, 4] rfl)
        · intro is9_12 k_12 μ12_ H locs ls q1_12 q2_12 hP hS hl
          have hl : lv_has ls 7 [(5, .int (iZ (is9_12)))] := hl
          refine lv_iload hx hb dX10_similar_153 (lv_at hl 0 rfl) ?_
          exact W.zret (v := iZ (is9_12)) hx hb hr (by exact fz_narZ (by rw [q2_12]; exact simV_c wp wq)) (fun t9 ht9 hW9 => ⟨⟨iZ (is9_12), (μ12_, is9_12), rfl, ⟨rfl, (by
                            dsimp only
                            rw [q1_12]
                            have ff := fr_trans hfr (fr_trans fa fb)
                            have e00 := a3 0 0 (by show ¬ (0 = 723); decide)
                            have e01 := b3 0 0 (by show ¬ (0 = 738); decide)
                            have cd9 : cd2 ((0 ≤ pp ∧ pp < μ 0 10) ∧ 0 ≤ pq ∧ pq < μ 0 10) True = 0 := cd2_0 (by omega) trivial
                            exact ⟨⟨ff, by omega⟩, by omega, fun _ => q2_12⟩)⟩, by rw [ht9]; exact hP, va_K.moved hW9.alike hK⟩, hS.F ht9⟩) hS.2.2 dX10_similar_155
    · have hqn := if_not hjn (by omega)
      refine lv_iconst (v := iZ 1) hx hb dX10_similar_22 rfl ?_
      refine lv_goto (tgt := 27) hx hb dX10_similar_23 (by decide) ?_
      refine lv_iconst (v := iZ 1) hx hb dX10_similar_27 rfl ?_
      refine lv_iconst (v := iZ 0) hx hb dX10_similar_28 rfl ?_
      refine va_calli (va_runV (As := [.int (iZ (1)), .int (iZ (1)), .int (iZ (0))]) (rest := []) ⟨hx, hb, hml, hown, hts⟩ (m_bad2 l dC dI cI cZ cII cIII h0 H.size μ1 (1) (1) (0) (by first | assumption | omega | exact ⟨by omega, by omega⟩) (by first | assumption | omega | exact ⟨by omega, by omega⟩) (by first | assumption | omega | exact ⟨by omega, by omega⟩) (by first | assumption | omega | exact ⟨by omega, by omega⟩)) (cwV 3 hts (gV_G k1342 k1344 ks_yX10_bad k13 k1345) rfl rfl rfl (by decide +kernel) ⟨Nat.le_of_ble_eq_true rfl, Nat.le_of_ble_eq_true rfl⟩) ⟨fun a U g mk q => by obtain ⟨q0, q1, qP, qK⟩ := q; exact ⟨q0, q1, qP, va_K.moved (u := U) (U := U.calling g mk a) (Vm.Alike.refl U.vm) qK⟩, va_recv hK hP (ci := 10) (q0 := 0) rfl ((fw_get (by decide)).trans (by rw [mE_obj]; rfl)), fun U hU hW => ⟨rfl, by rw [hU], by rw [hU]; exact hP, va_K.moved hW.alike hK⟩⟩ rfl rfl hl.1 rfl (lv_room (Nat.le_of_ble_eq_true rfl)) dX10_similar_29 ⟨Nat.le_of_ble_eq_true rfl, Nat.le_of_ble_eq_true rfl⟩) hS (fun q _ h => fA_le hS.1 q h) (fA_le hS.1) (fun r9 u9 t9 H1 locs ht9 hvm9 hw9 hB9 hz9 hk9 hS => ?_)
      obtain ⟨μ13, r14⟩ := u9
      obtain ⟨hP, -⟩ := hB9
      rw [ht9] at hP
      generalize H1 = H at hP hS ⊢
      obtain ⟨e9, hw9⟩ := hw9
      have e9 : r9 = iZ r14 := e9
      subst e9
      simp only at hP hw9
      have hμ13 := hw9; clear hw9
      have hfr := fr_trans hfr (badP_fr hμ13)
      have hrb := badP_r hμ13
      obtain rfl : r14 = 1 := by omega
      refine fz_if_eq (tgt := 37) (by decide) hx hb dX10_similar_32 (by decide) (fun h9 => absurd h9 (by decide)) (fun c32_ => ?_)
      refine lv_iconst (v := iZ 0) hx hb dX10_similar_35 rfl ?_
      exact W.zret (v := iZ (0)) hx hb hr (by decide +kernel) (fun t9 ht9 hW9 => ⟨⟨iZ (0), (μ13, 0), rfl, ⟨rfl, (by
                    dsimp only
                    have cd9 : cd2 ((0 ≤ pp ∧ pp < μ 0 10) ∧ 0 ≤ pq ∧ pq < μ 0 10) True = 1 := cd2_1 (by omega)
                    exact ⟨⟨hfr, by omega⟩, by omega, fun hc => absurd (cd9.symm.trans hc) (by decide)⟩)⟩, by rw [ht9]; exact hP, va_K.moved hW9.alike hK⟩, hS.F ht9⟩) hS.2.2 dX10_similar_36

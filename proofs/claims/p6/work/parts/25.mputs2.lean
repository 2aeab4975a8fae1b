theorem dX10_putsRepeat_46 : decode cX10_putsRepeat 46 = .ok (.iload 8, 2) := by decide +kernel
theorem dX10_putsRepeat_48 : decode cX10_putsRepeat 48 = .ok (.iload 5, 2) := by decide +kernel
theorem dX10_putsRepeat_50 : decode cX10_putsRepeat 50 = .ok (.if_icmp .ge 92, 3) := by decide +kernel
theorem dX10_putsRepeat_53 : decode cX10_putsRepeat 53 = .ok (.aload_n 0, 1) := by decide +kernel
theorem dX10_putsRepeat_54 : decode cX10_putsRepeat 54 = .ok (.bipush 50, 2) := by decide +kernel
theorem dX10_putsRepeat_56 : decode cX10_putsRepeat 56 = .ok (.invokevirtual 197, 3) := by decide +kernel
theorem dX10_putsRepeat_59 : decode cX10_putsRepeat 59 = .ok (.aload_n 0, 1) := by decide +kernel
theorem dX10_putsRepeat_60 : decode cX10_putsRepeat 60 = .ok (.iload_n 1, 1) := by decide +kernel
theorem dX10_putsRepeat_61 : decode cX10_putsRepeat 61 = .ok (.aload_n 2, 1) := by decide +kernel
theorem dX10_putsRepeat_62 : decode cX10_putsRepeat 62 = .ok (.iload 4, 2) := by decide +kernel
theorem dX10_putsRepeat_64 : decode cX10_putsRepeat 64 = .ok (.iload 8, 2) := by decide +kernel
theorem dX10_putsRepeat_66 : decode cX10_putsRepeat 66 = .ok (.iadd, 1) := by decide +kernel
theorem dX10_putsRepeat_67 : decode cX10_putsRepeat 67 = .ok (.iaload, 1) := by decide +kernel
theorem dX10_putsRepeat_68 : decode cX10_putsRepeat 68 = .ok (.bipush 50, 2) := by decide +kernel
theorem dX10_putsRepeat_70 : decode cX10_putsRepeat 70 = .ok (.invokevirtual 200, 3) := by decide +kernel
theorem dX10_putsRepeat_73 : decode cX10_putsRepeat 73 = .ok (.iconst 1, 1) := by decide +kernel
theorem dX10_putsRepeat_74 : decode cX10_putsRepeat 74 = .ok (.istore 9, 2) := by decide +kernel
theorem dX10_putsRepeat_127 : decode cX10_putsRepeat 127 = .ok (.aload_n 0, 1) := by decide +kernel
theorem dX10_putsRepeat_128 : decode cX10_putsRepeat 128 = .ok (.bipush 50, 2) := by decide +kernel
theorem dX10_putsRepeat_130 : decode cX10_putsRepeat 130 = .ok (.iconst 0, 1) := by decide +kernel
theorem dX10_putsRepeat_131 : decode cX10_putsRepeat 131 = .ok (.bipush 52, 2) := by decide +kernel
theorem dX10_putsRepeat_133 : decode cX10_putsRepeat 133 = .ok (.invokevirtual 200, 3) := by decide +kernel
theorem dX10_putsRepeat_136 : decode cX10_putsRepeat 136 = .ok (.iinc 8 1, 3) := by decide +kernel
theorem dX10_putsRepeat_139 : decode cX10_putsRepeat 139 = .ok (.goto (-93), 3) := by decide +kernel
theorem rO_mono : ∀ (m n : Nat) (w : Rw), m ≤ n → rO w m ≤ rO w n
  | 0, _, w, _ => by cases w <;> exact Nat.zero_le _
  | _ + 1, _, .leaf, _ => Nat.zero_le _
  | m + 1, 0, _, h => by omega
  | m + 1, n + 1, .inner z k v l r, h => by
    have h1 := rO_mono m n r (by omega)
    show 1 + rN l + rO r m ≤ 1 + rN l + rO r n
    omega
def P8 (x y : Nat) : Prop := PT 50 x y ∨ PT 51 x y ∨ PT 52 x y
set_option maxHeartbeats 40000000 in
set_option maxRecDepth 100000 in
theorem LX10_putsRepeat_46 {p : Program} {l : Launch} {e : Env} {R : Room} {s : State} {m : MethodId} {args : Array Value} {below : List Frame} {meth : Method} {c : Code} {cells slots : Nat} {Q : State → Prop} {dC : Nat → ClassId} {dI : Nat → Nat → Nat} {h0 : Nat} {cI cZ cII cIII : ClassId} (hx : p.tables.exec = Jvm.exec) (hb : c.code = cX10_putsRepeat) (hml : c.maxLocals = 10) (hown : s.vm.findClass RX10 = some m.cls) (hts : ∀ w ∈ wsG, w.before args s = true) (hK : va_K (dC, dI) vwCl (mT cI cZ cII cIII) s) (hRf : 24 ≤ R.frames) (hRl : 730 ≤ R.locals) (hRc : cells ≤ R.cells) (hRs : slots ≤ R.slots) (μ0 : va_M) (y1 : Int) (t : Int) (q : Nat) (m9 : Int) (a : Int) (n1 : Int) (n : Int) (w : Rw) (ht : 0 ≤ t ∧ t < 70) (hq : (723 ≤ q ∧ q < 737) ∨ (738 ≤ q ∧ q < 752)) (hR : RA μ0 t.toNat w 0) (hN : rN w ≤ 900) (hwf : rWF w) (hHH : rH w ≤ 20) (hrow : rowIs μ0 q w 0) (h260 : rI w ≤ 260) (ht3 : t ≠ 50 ∧ t ≠ 51 ∧ t ≠ 52) (hal : ∀ e m : Nat, 1 ≤ e → e < n.toNat → m < n1.toNat → halk (rdrop (a.toNat + m) w) (rdrop (a.toNat + e * n1.toNat + m) w)) (hbd : 0 ≤ a ∧ 1 ≤ n1 ∧ 2 ≤ n ∧ a + n * n1 ≤ rI w) (hexit142 : ∀ (k : Int) (μ : va_M) (H : Heap) (locs : List Loc) (ls : Array Slot), (fr P8 μ0 μ) → (μ 719 52 = 1 + rO w (a.toNat + n1.toNat)) → (agr μ0 μ 52 0 (1 + rO w a.toNat)) → (RA μ 52 (frow w a.toNat n1.toNat n.toNat 0 n1.toNat) (1 + rO w a.toNat)) → va_P (dC, dI) vwCl (fw (mE cI cZ cII cIII h0) h0 6325 μ) H → va_S (fA h0 6325 s.heap.size) s.heap H locs → lv_has ls 10 [(7, .int (iZ (y1))), (0, .ref h0), (1, .int (iZ (t))), (2, .ref (h0 + q)), (3, .int (iZ (m9))), (4, .int (iZ (a))), (5, .int (iZ (n1))), (6, .int (iZ (n)))] → W p l e R s m args below meth c H locs cells slots Q (F0 m 142 ls [])) :
    ∀ (n9 : Nat) (k : Int) (μ : va_M) (H : Heap) (locs : List Loc) (ls : Array Slot), (0 ≤ k ∧ k ≤ n1) → (fr P8 μ0 μ) → (μ 719 52 = 1 + rO w (a.toNat + k.toNat)) → (agr μ0 μ 52 0 (1 + rO w a.toNat)) → (∀ u8 : va_M, agr μ u8 52 0 (1 + rO w (a.toNat + k.toNat)) → RA u8 52 (frow w a.toNat n1.toNat n.toNat k.toNat (n1.toNat - k.toNat)) (1 + rO w (a.toNat + k.toNat)) → RA u8 52 (frow w a.toNat n1.toNat n.toNat 0 n1.toNat) (1 + rO w a.toNat)) → (n1 - k).toNat < n9 → va_P (dC, dI) vwCl (fw (mE cI cZ cII cIII h0) h0 6325 μ) H → va_S (fA h0 6325 s.heap.size) s.heap H locs → lv_has ls 10 [(8, .int (iZ (k))), (7, .int (iZ (y1))), (0, .ref h0), (1, .int (iZ (t))), (2, .ref (h0 + q)), (3, .int (iZ (m9))), (4, .int (iZ (a))), (5, .int (iZ (n1))), (6, .int (iZ (n)))] → W p l e R s m args below meth c H locs cells slots Q (F0 m 46 ls []) := by
  intro n9
  induction n9 with
  | zero => intro k μ H locs ls hk hfr hN5 hag hc hm9 hP hS hl; exact absurd hm9 (Nat.not_lt_zero _)
  | succ n9 ih =>
    intro k μ H locs ls hk hfr hN5 hag hc hm9 hP hS hl
    have hqq : 723 ≤ q ∧ q < 752 := by omega
    have hq9 : rowQ q := hq
    clear hq
    have hbq : 0 ≤ a ∧ 1 ≤ n1 ∧ 2 ≤ n ∧ a ≤ 260 ∧ n1 ≤ 260 ∧ a + 2 * n1 ≤ rI w := by
      have h8 : 2 * n1 ≤ n * n1 := Int.mul_le_mul_of_nonneg_right (by omega) (by omega)
      omega
    refine lv_iload hx hb dX10_putsRepeat_46 (lv_at hl 0 rfl) ?_
    refine lv_iload hx hb dX10_putsRepeat_48 (lv_at hl 7 rfl) ?_
    refine fz_icmp_ge (tgt := 142) (by constructor <;> omega) (by constructor <;> omega) hx hb dX10_putsRepeat_50 (by decide) (fun c50_ => ?_) (fun c50_ => ?_)
    · exact hexit142 (k) μ H locs ls (by exact hfr) (by
                    obtain rfl : k = n1 := by omega
                    exact hN5) (by exact hag) (by
                    obtain rfl : k = n1 := by omega
                    exact hc μ (fun _ _ _ => ⟨rfl, rfl, rfl⟩) (by rw [Nat.sub_self]; trivial)) hP hS (lv_sub hl [1, 2, 3, 4, 5, 6, 7, 8] rfl)
    · have hIx := rdrop_I (a.toNat + k.toNat) w
      have hNx := rdrop_N (a.toNat + k.toNat) w
      have hHx := rdrop_H (a.toNat + k.toNat) w
      have hFx := rdrop_WF (a.toNat + k.toNat) w hwf
      have hRx := RA_drop (a.toNat + k.toNat) w 0 hR
      obtain ⟨zx, kx, vx, lx, wx, hex⟩ := rI_pos (w := rdrop (a.toNat + k.toNat) w) (by omega)
      rw [hex] at hIx hNx hHx hFx hRx
      rw [rN_in] at hNx; rw [rI_in] at hIx; rw [rH_in] at hHx
      obtain ⟨rx1, rx2, rx3, rx4, rx5⟩ := hRx
      rw [Nat.zero_add] at rx1 rx2 rx3 rx4
      have fxA : iWF kx vx lx := ⟨hFx.1, hFx.2.1, hFx.2.2.1, hFx.2.2.2.1, hFx.2.2.2.2.1, hFx.2.2.2.2.2.1, hFx.2.2.2.2.2.2.1⟩
      have hrS := rO_S _ _ _ _ _ _ _ hex
      have hI9 := rdrop_I (a.toNat + k.toNat + 1) w
      have hN9_ := rdrop_N (a.toNat + k.toNat + 1) w
      have hL9 := rI_le (rdrop (a.toNat + k.toNat + 1) w)
      have hmo := rO_mono a.toNat (a.toNat + k.toNat) w (by omega)
      have hal9 : ∀ e9 : Nat, 1 ≤ e9 → e9 < n.toNat → halk (rdrop (a.toNat + k.toNat) w) (rdrop (a.toNat + e9 * n1.toNat + k.toNat) w) := fun e9 h1 h2 => hal e9 k.toNat h1 h2 (by omega)
      refine lv_aload_n hx hb dX10_putsRepeat_53 rfl (lv_at hl 2 rfl) ?_
      refine lv_bipush (v := iZ 50) hx hb dX10_putsRepeat_54 rfl ?_
      refine va_callv (va_runV (As := [.int (iZ (50))]) (rest := []) ⟨hx, hb, hml, hown, hts⟩ (m_empties l dC dI cI cZ cII cIII h0 H.size μ (50) (by first | assumption | omega | exact ⟨by omega, by omega⟩)) (cwV 1 hts (gV_G k1373 k1375 ks_yX10_empties k13 k1376) rfl rfl rfl (by decide +kernel) ⟨by show 1 + 1 ≤ _; omega, by show 8 + (2 + 11) + (14) ≤ _; omega⟩) ⟨fun a U g mk q => by obtain ⟨q0, q1, qP, qK⟩ := q; exact ⟨q0, q1, qP, va_K.moved (u := U) (U := U.calling g mk a) (Vm.Alike.refl U.vm) qK⟩, va_recv hK hP (ci := 10) (q0 := 0) rfl ((fw_get (by decide)).trans (by rw [mE_obj]; rfl)), fun U hU hW => ⟨rfl, by rw [hU], by rw [hU]; exact hP, va_K.moved hW.alike hK⟩⟩ rfl rfl hl.1 rfl (lv_room (Nat.le_of_ble_eq_true rfl)) dX10_putsRepeat_56 ⟨hRc, hRs⟩) hS (fun q _ h => fA_le hS.1 q h) (fA_le hS.1) (fun u9 t9 H1 locs ht9 hvm9 hw9 hB9 hz9 hk9 hS => ?_)
      obtain ⟨hP, -⟩ := hB9
      rw [ht9] at hP
      generalize H1 = H at hP hS ⊢
      obtain ⟨μa, eμa⟩ : ∃ x : va_M, x = u9 := ⟨_, rfl⟩
      rw [← eμa] at hP hw9
      have hμa := hw9; clear hw9
      rw [show (50 : Int).toNat = 50 from rfl] at hμa
      have f1 : fr (PT 50) μ μa := by rw [hμa]; exact fr_uz fr_rfl (by unfold PT; omega)
      have fa : fr P8 μ0 μa := fr_trans hfr (fr_mono f1 (fun _ _ h => Or.inl h))
      have h50 : μa 719 50 = 0 := by rw [hμa, uz_s]
      have hca : ∀ x, μa (507 + t.toNat) x = μ0 (507 + t.toNat) x ∧ μa (578 + t.toNat) x = μ0 (578 + t.toNat) x ∧ μa (649 + t.toNat) x = μ0 (649 + t.toNat) x := fun x => ⟨fa _ x (by unfold P8 PT; omega), fa _ x (by unfold P8 PT; omega), fa _ x (by unfold P8 PT; omega)⟩
      have hRx : RA μa t.toNat (Std.DTreeMap.Internal.Impl.inner zx kx vx lx wx) (rO w (a.toNat + k.toNat)) := RA_kept ⟨rx1, rx2, rx3, rx4, by rw [Nat.zero_add] at rx5; exact rx5⟩ (fun x _ _ => hca x)
      refine lv_aload_n hx hb dX10_putsRepeat_59 rfl (lv_at hl 2 rfl) ?_
      refine lv_iload_n hx hb dX10_putsRepeat_60 rfl (lv_at hl 3 rfl) ?_
      refine lv_aload_n hx hb dX10_putsRepeat_61 rfl (lv_at hl 4 rfl) ?_
      refine lv_iload hx hb dX10_putsRepeat_62 (lv_at hl 6 rfl) ?_
      refine lv_iload hx hb dX10_putsRepeat_64 (lv_at hl 0 rfl) ?_
      refine lv_iadd hx hb dX10_putsRepeat_66 ?_
      refine lv_topi (fun x9 ex9 => ?_)
      obtain rfl : x9 = iZ (a + k) := ex9.trans (iZ_add _ _)
      refine fz_ld (k := q) (n := 260) hx hb hK hP 0 (by omega) (mE_rowAny (by first | exact hq9 | exact hq)) rfl ⟨by omega, by omega⟩ (by decide) dX10_putsRepeat_67 ?_
      rw [show μa q (a + k).toNat = (rO w (a.toNat + k.toNat) : Int) from (by rw [show (a + k).toNat = a.toNat + k.toNat by omega, fa _ _ (by unfold P8 PT; omega), hrow _ (by omega)]; omega)]
      refine lv_bipush (v := iZ 50) hx hb dX10_putsRepeat_68 rfl ?_
      refine va_callv (va_runV (As := [.int (iZ (t)), .int (iZ ((rO w (a.toNat + k.toNat) : Int))), .int (iZ (50))]) (rest := []) ⟨hx, hb, hml, hown, hts⟩ (m_copies l dC dI cI cZ cII cIII h0 H.size μa (t) ((rO w (a.toNat + k.toNat) : Int)) (50) (1 + (rN lx : Int)) (by first | assumption | omega | exact ⟨by omega, by omega⟩) (by decide) (by omega) (by intro _; omega) (by intro _; show 0 ≤ μa 719 50 ∧ μa 719 50 + _ ≤ 900; omega) (by intro _; exact hRx.2.2.1)) (cwV 3 hts (gV_G k1412 k1414 ks_yX10_copies k13 k1415) rfl rfl rfl (by decide +kernel) ⟨by show 2 + 1 ≤ _; omega, by show 8 + (6 + 11) + (38) ≤ _; omega⟩) ⟨fun a U g mk q => by obtain ⟨q0, q1, qP, qK⟩ := q; exact ⟨q0, q1, qP, va_K.moved (u := U) (U := U.calling g mk a) (Vm.Alike.refl U.vm) qK⟩, va_recv hK hP (ci := 10) (q0 := 0) rfl ((fw_get (by decide)).trans (by rw [mE_obj]; rfl)), fun U hU hW => ⟨rfl, by rw [hU], by rw [hU]; exact hP, va_K.moved hW.alike hK⟩⟩ rfl rfl hl.1 rfl (lv_room (Nat.le_of_ble_eq_true rfl)) dX10_putsRepeat_70 ⟨hRc, hRs⟩) hS (fun q _ h => fA_le hS.1 q h) (fA_le hS.1) (fun u9 t9 H1 locs ht9 hvm9 hw9 hB9 hz9 hk9 hS => ?_)
      obtain ⟨hP, -⟩ := hB9
      rw [ht9] at hP
      generalize H1 = H at hP hS ⊢
      obtain ⟨μb, eμb⟩ : ∃ x : va_M, x = u9 := ⟨_, rfl⟩
      rw [← eμb] at hP hw9
      have hμb := hw9; clear hw9
      obtain ⟨c1, c2, c3⟩ := hμb.2 (by decide)
      have e50 : (50 : Int).toNat = 50 := rfl
      rw [e50, h50] at c1 c2 c3
      have c3 : cpy μa μb t.toNat (rO w (a.toNat + k.toNat)) 50 0 (1 + rN lx) := by have h9 := c3; rw [show (rO w (a.toNat + k.toNat) : Int).toNat = rO w (a.toNat + k.toNat) from rfl, show (1 + (rN lx : Int)).toNat = 1 + rN lx by omega] at h9; exact h9
      have f2 : fr (PT 50) μ μb := fr_trans f1 (fr_mono c1 (fun _ _ h => PG_PT h))
      have fb : fr P8 μ0 μb := fr_trans hfr (fr_mono f2 (fun _ _ h => Or.inl h))
      have hTb : TR μb 50 (facc w a.toNat n1.toNat k.toNat 0) := by
        rw [facc, hex]
        have hz : rN (Std.DTreeMap.Internal.Impl.leaf : Rw) = 0 := rfl
        have h9 := cpy_RA (x := Std.DTreeMap.Internal.Impl.leaf) hRx c3 (fun _ _ _ => ⟨rfl, rfl, rfl⟩) trivial
        exact ⟨by show μb 719 50 = _; rw [hd1, rN_in, hz]; omega, h9⟩
      have hcb : ∀ x, μb (507 + t.toNat) x = μ0 (507 + t.toNat) x ∧ μb (578 + t.toNat) x = μ0 (578 + t.toNat) x ∧ μb (649 + t.toNat) x = μ0 (649 + t.toNat) x := fun x => ⟨fb _ x (by unfold P8 PT; omega), fb _ x (by unfold P8 PT; omega), fb _ x (by unfold P8 PT; omega)⟩
      refine lv_iconst (v := iZ 1) hx hb dX10_putsRepeat_73 rfl ?_
      refine lv_istore (lv' := [(9, .int (iZ (1))), (8, .int (iZ (k))), (7, .int (iZ (y1))), (0, .ref h0), (1, .int (iZ (t))), (2, .ref (h0 + q)), (3, .int (iZ (m9))), (4, .int (iZ (a))), (5, .int (iZ (n1))), (6, .int (iZ (n)))]) hx hb dX10_putsRepeat_74 hl (by decide) rfl (fun ls hl => ?_)
      refine LX10_putsRepeat_76 hx hb hml hown hts hK hRf hRl hRc hRs (μb) (k) (y1) (t) (q) (m9) (a) (n1) (n) (w) (by assumption) (by exact hq9) (by exact RA_kept hR (fun x _ _ => hcb x)) (by assumption) (by assumption) (by assumption) (by exact fun m hm => by rw [fb _ _ (by unfold P8 PT; omega)]; exact hrow m hm) (by assumption) (by assumption) (by assumption) (by assumption) (by exact ⟨by omega, by omega⟩) ?_ _ (1) μb H locs ls (by omega) (by exact fr_rfl) (by exact hTb) (Nat.lt_succ_self _) hP hS (lv_sub hl [0, 1, 2, 3, 4, 5, 6, 7, 8, 9] rfl)
      · intro j_1 μ1_ H locs ls q1_1 q2_1 hP hS hl
        have hl : lv_has ls 10 [(8, .int (iZ (k))), (7, .int (iZ (y1))), (0, .ref h0), (1, .int (iZ (t))), (2, .ref (h0 + q)), (3, .int (iZ (m9))), (4, .int (iZ (a))), (5, .int (iZ (n1))), (6, .int (iZ (n)))] := hl
        have gz : fr P8 μ0 μ1_ := fr_trans fb (fr_mono q1_1 (fun _ _ h => h.elim Or.inl (fun h2 => Or.inr (Or.inl h2))))
        have g52 : ∀ x y, ¬ PT 50 x y → ¬ PT 51 x y → μ1_ x y = μ x y := fun x y h1 h2 => (q1_1 x y (fun h => h.elim h1 h2)).trans (f2 x y h1)
        have n52 : μ1_ 719 52 = 1 + rO w (a.toNat + k.toNat) := by rw [g52 _ _ (by unfold PT; omega) (by unfold PT; omega)]; exact hN5
        obtain ⟨kf, vf, lf, hfa⟩ := facc_one (n := n.toNat) hal9 (by rw [hex, rI_in]; omega) (n.toNat - 1) (by omega)
        obtain ⟨s1, s2, s3, s4⟩ := facc_ok (n := n.toNat) hwf hal9 (n.toNat - 1) (by omega)
        have hz : rN (Std.DTreeMap.Internal.Impl.leaf : Rw) = 0 := rfl
        rw [hfa, hex, hd1, rN_in, rN_in, hz] at s3
        clear s1 s2 s4
        have hT9 := q2_1
        rw [hfa] at hT9
        refine lv_aload_n hx hb dX10_putsRepeat_127 rfl (lv_at hl 2 rfl) ?_
        refine lv_bipush (v := iZ 50) hx hb dX10_putsRepeat_128 rfl ?_
        refine lv_iconst (v := iZ 0) hx hb dX10_putsRepeat_130 rfl ?_
        refine lv_bipush (v := iZ 52) hx hb dX10_putsRepeat_131 rfl ?_
        refine va_callv (va_runV (As := [.int (iZ (50)), .int (iZ (0)), .int (iZ (52))]) (rest := []) ⟨hx, hb, hml, hown, hts⟩ (m_copies l dC dI cI cZ cII cIII h0 H.size μ1_ (50) (0) (52) (1 + (rN lf : Int)) (by decide) (by decide) (by decide) (by intro _; omega) (by intro _; show 0 ≤ μ1_ 719 52 ∧ μ1_ 719 52 + _ ≤ 900; omega) (by intro _; exact hT9.2.2.2.1)) (cwV 3 hts (gV_G k1412 k1414 ks_yX10_copies k13 k1415) rfl rfl rfl (by decide +kernel) ⟨by show 2 + 1 ≤ _; omega, by show 8 + (6 + 11) + (38) ≤ _; omega⟩) ⟨fun a U g mk q => by obtain ⟨q0, q1, qP, qK⟩ := q; exact ⟨q0, q1, qP, va_K.moved (u := U) (U := U.calling g mk a) (Vm.Alike.refl U.vm) qK⟩, va_recv hK hP (ci := 10) (q0 := 0) rfl ((fw_get (by decide)).trans (by rw [mE_obj]; rfl)), fun U hU hW => ⟨rfl, by rw [hU], by rw [hU]; exact hP, va_K.moved hW.alike hK⟩⟩ rfl rfl hl.1 rfl (lv_room (Nat.le_of_ble_eq_true rfl)) dX10_putsRepeat_133 ⟨hRc, hRs⟩) hS (fun q _ h => fA_le hS.1 q h) (fA_le hS.1) (fun u9 t9 H1 locs ht9 hvm9 hw9 hB9 hz9 hk9 hS => ?_)
        obtain ⟨hP, -⟩ := hB9
        rw [ht9] at hP
        generalize H1 = H at hP hS ⊢
        obtain ⟨μd, eμd⟩ : ∃ x : va_M, x = u9 := ⟨_, rfl⟩
        rw [← eμd] at hP hw9
        have hμd := hw9; clear hw9
        obtain ⟨d1, d2, d3⟩ := hμd.2 (by decide)
        have e52 : (52 : Int).toNat = 52 := rfl
        have eN : (μ1_ 719 52).toNat = 1 + rO w (a.toNat + k.toNat) := by omega
        rw [e52] at d1 d2 d3
        rw [eN] at d1 d3
        have d3 : cpy μ1_ μd 50 0 52 (1 + rO w (a.toNat + k.toNat)) (1 + rN lf) := by have h9 := d3; rw [show (1 + (rN lf : Int)).toNat = 1 + rN lf by omega] at h9; exact h9
        refine lv_iinc (v := iZ (k + 1)) (lv' := [(8, .int (iZ (k + 1))), (7, .int (iZ (y1))), (0, .ref h0), (1, .int (iZ (t))), (2, .ref (h0 + q)), (3, .int (iZ (m9))), (4, .int (iZ (a))), (5, .int (iZ (n1))), (6, .int (iZ (n)))]) hx hb dX10_putsRepeat_136 hl (k := 0) rfl (iZ_add _ _) (by decide) rfl (fun ls hl => ?_)
        refine lv_goto (tgt := 46) hx hb dX10_putsRepeat_139 (by decide) ?_
        exact ih (k + 1) μd H locs ls (by omega) (by exact fr_trans gz (fr_mono d1 (fun _ _ h => Or.inr (Or.inr (PG_PT h))))) (by rw [show (k + 1).toNat = k.toNat + 1 by omega, ← Nat.add_assoc, hrS]; omega) (by
                        intro y hy1 hy2
                        have h7 := hag y hy1 hy2
                        rw [← h7.1, ← h7.2.1, ← h7.2.2]
                        exact ⟨(d1 _ _ (by unfold PG; omega)).trans (g52 _ _ (by unfold PT; omega) (by unfold PT; omega)), (d1 _ _ (by unfold PG; omega)).trans (g52 _ _ (by unfold PT; omega) (by unfold PT; omega)), (d1 _ _ (by unfold PG; omega)).trans (g52 _ _ (by unfold PT; omega) (by unfold PT; omega))⟩) (by
                        rw [show (k + 1).toNat = k.toNat + 1 by omega, ← Nat.add_assoc, hrS]
                        intro u8 ha8 hx8
                        refine hc u8 (fun y hy1 hy2 => ?_) ?_
                        · have h7 := ha8 y hy1 (by omega)
                          rw [h7.1, h7.2.1, h7.2.2]
                          exact ⟨(d1 _ _ (by unfold PG; omega)).trans (g52 _ _ (by unfold PT; omega) (by unfold PT; omega)), (d1 _ _ (by unfold PG; omega)).trans (g52 _ _ (by unfold PT; omega) (by unfold PT; omega)), (d1 _ _ (by unfold PG; omega)).trans (g52 _ _ (by unfold PT; omega) (by unfold PT; omega))⟩
                        · rw [show n1.toNat - k.toNat = (n1.toNat - (k.toNat + 1)) + 1 by omega, frow, hfa]
                          refine cpy_RA hT9.2 d3 (fun y hy1 hy2 => ha8 y (by omega) (by omega)) ?_
                          rw [show 1 + rO w (a.toNat + k.toNat) + 1 + rN lf = 1 + (rO w (a.toNat + k.toNat) + 1 + rN lx) by omega]
                          exact hx8) (by omega) hP hS (lv_sub hl [0, 1, 2, 3, 4, 5, 6, 7, 8] rfl)

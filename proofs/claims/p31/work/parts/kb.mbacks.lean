
/-! the reference's steps back, told whole -/
set_option maxHeartbeats 4000000 in
set_option maxRecDepth 100000 in
theorem LX10_dropsOldest_2x {p : Program} {l : Launch} {e : Env} {R : Room} {s : State} {m : MethodId} {args : Array Value} {below : List Frame} {meth : Method} {c : Code} {cells slots : Nat} {Q : State → Prop} {dC : Nat → ClassId} {dI : Nat → Nat → Nat} {h0 : Nat} {cI cZ cII cIII : ClassId} (hx : p.tables.exec = Jvm.exec) (hb : c.code = cX10_dropsOldest) (hml : c.maxLocals = 2) (hown : s.vm.findClass RX10 = some m.cls) (hts : ∀ w ∈ wsG, w.before args s = true) (hK : va_K (dC, dI) vwCl (mT cI cZ cII cIII) s) (hRf : 4 ≤ R.frames) (hRl : 86 ≤ R.locals) (hRc : cells ≤ R.cells) (hRs : slots ≤ R.slots) (μ0 : va_M) (Bs : List Rw) (hl16 : Bs.length = 16) (hJB : ∀ (i : Nat) (B : Rw), Bs[i]? = some B → skB B) (hexit50 : ∀ (k : Int) (μ : va_M) (H : Heap) (locs : List Loc) (ls : Array Slot), (fr BF μ0 μ) → ((∀ j : Nat, j < 16 → μ 721 j = 0 ∨ μ 721 j = 1) ∧ dX μ Bs 16 ∧ μ 0 23 = 16) → va_P (dC, dI) vwCl (fw (mE cI cZ cII cIII h0) h0 6325 μ) H → va_S (fA h0 6325 s.heap.size) s.heap H locs → lv_has ls 2 [(0, .ref h0)] → W p l e R s m args below meth c H locs cells slots Q (F0 m 50 ls [])) :
    ∀ (n9 : Nat) (k : Int) (μ : va_M) (H : Heap) (locs : List Loc) (ls : Array Slot), (1 ≤ k ∧ k ≤ 16) → (fr BF μ0 μ) → (∀ j : Nat, j < 16 → μ 721 j = 0 ∨ μ 721 j = 1) → (dX μ Bs k) → (μ 0 23 = 16) → (20 - k).toNat < n9 → va_P (dC, dI) vwCl (fw (mE cI cZ cII cIII h0) h0 6325 μ) H → va_S (fA h0 6325 s.heap.size) s.heap H locs → lv_has ls 2 [(1, .int (iZ (k))), (0, .ref h0)] → W p l e R s m args below meth c H locs cells slots Q (F0 m 2 ls []) := by
  intro n9
  induction n9 with
  | zero => intro k μ H locs ls hk hf hb2 hd h23 hm9 hP hS hl; exact absurd hm9 (Nat.not_lt_zero _)
  | succ n9 ih =>
    intro k μ H locs ls hk hf hb2 hd h23 hm9 hP hS hl
    refine lv_iload_n hx hb dX10_dropsOldest_2 rfl (lv_at hl 0 rfl) ?_
    refine lv_bipush (v := iZ 16) hx hb dX10_dropsOldest_3 rfl ?_
    refine fz_icmp_ge (tgt := 50) (by constructor <;> omega) (by decide) hx hb dX10_dropsOldest_5 (by decide) (fun c5_ => ?_) (fun c5_ => ?_)
    · exact hexit50 (k) μ H locs ls (by exact hf) (by
                    obtain rfl : k = 16 := by omega
                    exact ⟨hb2, hd, h23⟩) hP hS (lv_sub hl [1] rfl)
    · obtain ⟨wk, kB⟩ : ∃ B, Bs[15 - k.toNat]? = some B := ⟨_, List.getElem?_eq_getElem (by omega)⟩
      have k2 := hJB _ _ kB
      obtain ⟨k3, k4⟩ := (hd _ _ kB).2 (k.toNat + 1) (by omega) (by omega)
      have ek : (k + 1).toNat = k.toNat + 1 := by omega
      have hdh := hid_i hd
      clear k4 hd
      refine lv_aload_n hx hb dX10_dropsOldest_8 rfl (lv_at hl 1 rfl) ?_
      refine lv_iload_n hx hb dX10_dropsOldest_9 rfl (lv_at hl 0 rfl) ?_
      refine lv_iconst (v := iZ 1) hx hb dX10_dropsOldest_10 rfl ?_
      refine lv_iadd hx hb dX10_dropsOldest_11 ?_
      refine lv_topi (fun x9 ex9 => ?_)
      obtain rfl : x9 = iZ (k + 1) := ex9.trans (iZ_add _ _)
      refine lv_iload_n hx hb dX10_dropsOldest_12 rfl (lv_at hl 0 rfl) ?_
      refine va_callv (va_runV (As := [.int (iZ (k + 1)), .int (iZ (k))]) (rest := []) ⟨hx, hb, hml, hown, hts⟩ (m_copiesAll l dC dI cI cZ cII cIII h0 H.size μ (k + 1) (k) (wk) (by first | assumption | omega | exact ⟨by omega, by omega⟩) (by first | assumption | omega | exact ⟨by omega, by omega⟩) (by omega) (by rw [ek]; exact k3) (by exact k2.2.1)) (cwV 2 hts (gV_G k1428 k1430 ks_yX10_copiesAll k13 k1431) rfl rfl rfl (by decide +kernel) ⟨by show 3 + 1 ≤ _; omega, by show 8 + (4 + 11) + (63) ≤ _; omega⟩) ⟨fun a U g mk q => by obtain ⟨q0, q1, qP, qK⟩ := q; exact ⟨q0, q1, qP, va_K.moved (u := U) (U := U.calling g mk a) (Vm.Alike.refl U.vm) qK⟩, va_recv hK hP (ci := 10) (q0 := 0) rfl ((fw_get (by decide)).trans (by rw [mE_obj]; rfl)), fun U hU hW => ⟨rfl, by rw [hU], by rw [hU]; exact hP, va_K.moved hW.alike hK⟩⟩ rfl rfl hl.1 rfl (lv_room (Nat.le_of_ble_eq_true rfl)) dX10_dropsOldest_13 ⟨hRc, hRs⟩) hS (fun q _ h => fA_le hS.1 q h) (fA_le hS.1) (fun u9 t9 H1 locs ht9 hvm9 hw9 hB9 hz9 hk9 hS => ?_)
      obtain ⟨hP, -⟩ := hB9
      rw [ht9] at hP
      generalize H1 = H at hP hS ⊢
      obtain ⟨μa, eμa⟩ : ∃ x : va_M, x = u9 := ⟨_, rfl⟩
      rw [← eμa] at hP hw9
      have hμa := hw9; clear hw9
      obtain ⟨c1, c2⟩ := hμa
      have fa : fr BF μ0 μa := fr_trans hf (fr_mono c2 (fun x y h => by unfold PT at h; unfold BF; omega))
      have a23 : μa 0 23 = 16 := by rw [c2 0 23 (by unfold PT; omega)]; exact h23
      have ab : ∀ j : Nat, j < 16 → μa 721 j = 0 ∨ μa 721 j = 1 := fun j hj => by rw [c2 721 j (by unfold PT; omega)]; exact hb2 j hj
      have abk := ab k.toNat (by omega)
      refine lv_aload_n hx hb dX10_dropsOldest_16 rfl (lv_at hl 1 rfl) ?_
      refine fz_get (D := (dC, dI)) (ci := 10) (v := .ref (h0 + 720)) (C := RX10) (T := TX10) (N := 53) hx hb hts inG10 hown hK hP (k := 0) (by decide) (F := mF h0) mE_obj rfl 25 (by decide) (hts _ k1191) (fun _ h9 => h9) rfl dX10_dropsOldest_17 ?_
      refine lv_iload_n hx hb dX10_dropsOldest_20 rfl (lv_at hl 0 rfl) ?_
      refine lv_iconst (v := iZ 1) hx hb dX10_dropsOldest_21 rfl ?_
      refine lv_isub hx hb dX10_dropsOldest_22 ?_
      refine lv_topi (fun x9 ex9 => ?_)
      obtain rfl : x9 = iZ (k - 1) := ex9.trans (iZ_sub _ _)
      refine lv_aload_n hx hb dX10_dropsOldest_23 rfl (lv_at hl 1 rfl) ?_
      refine fz_get (D := (dC, dI)) (ci := 10) (v := .ref (h0 + 720)) (C := RX10) (T := TX10) (N := 53) hx hb hts inG10 hown hK hP (k := 0) (by decide) (F := mF h0) mE_obj rfl 25 (by decide) (hts _ k1191) (fun _ h9 => h9) rfl dX10_dropsOldest_24 ?_
      refine lv_iload_n hx hb dX10_dropsOldest_27 rfl (lv_at hl 0 rfl) ?_
      refine fz_ld (k := 720) (n := 16) hx hb hK hP 0 (by decide) mE_backCost rfl ⟨by omega, by omega⟩ (by decide) dX10_dropsOldest_28 ?_
      refine fz_st (k := 720) (n := 16) (i := (k - 1)) (z := (μa 720 (k).toNat)) hx hb hK hP fA_in hS 0 (by decide) mE_backCost rfl ⟨by omega, by omega⟩ (by decide) dX10_dropsOldest_29 (fun H locs hP hS => ?_)
      obtain ⟨μ1, eμ1⟩ : ∃ x : va_M, x = uz μa 720 (k - 1).toNat (μa 720 (k).toNat) := ⟨_, rfl⟩
      rw [← eμ1] at hP
      refine lv_aload_n hx hb dX10_dropsOldest_30 rfl (lv_at hl 1 rfl) ?_
      refine fz_get (D := (dC, dI)) (ci := 10) (v := .ref (h0 + 721)) (C := RX10) (T := TX10) (N := 53) hx hb hts inG10 hown hK hP (k := 0) (by decide) (F := mF h0) mE_obj rfl 26 (by decide) (hts _ k1192) (fun _ h9 => h9) rfl dX10_dropsOldest_31 ?_
      refine lv_iload_n hx hb dX10_dropsOldest_34 rfl (lv_at hl 0 rfl) ?_
      refine lv_iconst (v := iZ 1) hx hb dX10_dropsOldest_35 rfl ?_
      refine lv_isub hx hb dX10_dropsOldest_36 ?_
      refine lv_topi (fun x9 ex9 => ?_)
      obtain rfl : x9 = iZ (k - 1) := ex9.trans (iZ_sub _ _)
      refine lv_aload_n hx hb dX10_dropsOldest_37 rfl (lv_at hl 1 rfl) ?_
      refine fz_get (D := (dC, dI)) (ci := 10) (v := .ref (h0 + 721)) (C := RX10) (T := TX10) (N := 53) hx hb hts inG10 hown hK hP (k := 0) (by decide) (F := mF h0) mE_obj rfl 26 (by decide) (hts _ k1192) (fun _ h9 => h9) rfl dX10_dropsOldest_38 ?_
      refine lv_iload_n hx hb dX10_dropsOldest_41 rfl (lv_at hl 0 rfl) ?_
      refine fz_zld (k := 721) (n := 16) hx hb hK hP 1 (by decide) mE_backHad rfl ⟨by omega, by omega⟩ (by decide) dX10_dropsOldest_42 ?_
      rw [show μ1 721 (k).toNat = μa 721 (k).toNat from by rw [eμ1, uz_n (by omega)]]
      refine fz_zst (k := 721) (n := 16) (i := (k - 1)) (z := (μa 721 (k).toNat)) hx hb hK hP fA_in hS 1 (by decide) mE_backHad rfl ⟨by omega, by omega⟩ (by decide) (by omega) dX10_dropsOldest_43 (fun H locs hP hS => ?_)
      obtain ⟨μ2, eμ2⟩ : ∃ x : va_M, x = uz μ1 721 (k - 1).toNat (μa 721 (k).toNat) := ⟨_, rfl⟩
      rw [← eμ2] at hP
      refine lv_iinc (v := iZ (k + 1)) (lv' := [(1, .int (iZ (k + 1))), (0, .ref h0)]) hx hb dX10_dropsOldest_44 hl (k := 0) rfl (iZ_add _ _) (by decide) rfl (fun ls hl => ?_)
      refine lv_goto (tgt := 2) hx hb dX10_dropsOldest_47 (by decide) ?_
      exact ih (k + 1) μ2 H locs ls (by omega) (by
                    subst eμ2 eμ1
                    exact fr_uz (fr_uz fa (by unfold BF; omega)) (by unfold BF; omega)) (by
                    subst eμ2 eμ1
                    intro j hj
                    by_cases h9 : j = (k - 1).toNat
                    · subst h9; rw [uz_s]; omega
                    · rw [uz_n (by omega), uz_n (by omega)]; exact ab j hj) (by
                    subst eμ2 eμ1
                    exact dX_S ⟨by omega, by omega⟩ kB c1 c2 (hid_e hdh) rfl) (by
                    subst eμ2 eμ1
                    rw [uz_n (by omega), uz_n (by omega)]; exact a23) (by omega) hP hS (lv_sub hl [0, 1] rfl)
set_option maxHeartbeats 4000000 in
set_option maxRecDepth 100000 in
theorem f_dropsOldest (l : Launch) (dC : Nat → ClassId) (dI : Nat → Nat → Nat) (cI cZ cII cIII : ClassId) (h0 sz : Nat) (μ : va_M) (Bs : List Rw) (hb2 : ∀ j : Nat, j < 16 → μ 721 j = 0 ∨ μ 721 j = 1) (hbk : bkX μ Bs) (hl16 : Bs.length = 16) (hJB : ∀ (i : Nat) (B : Rw), Bs[i]? = some B → skB B) : Met l yX10_dropsOldest (Cond.code yX10_dropsOldest cX10_dropsOldest 2 none :: wsG) ({ frames := 4, cells := 0, slots := 0, locals := 86 } : Room) (va_Pc [.ref h0] (fun U => U.heap.size = sz ∧ va_P (dC, dI) vwCl (fw (mE cI cZ cII cIII h0) h0 6325 μ) U.heap ∧ va_K (dC, dI) vwCl (mT cI cZ cII cIII) U)) (va_Qv (fun (u : va_M) => fr BF μ u ∧ (∀ j : Nat, j < 16 → u 721 j = 0 ∨ u 721 j = 1) ∧ bkX u (Bs.take 15) ∧ u 0 23 = 15) (fun u t => va_P (dC, dI) vwCl (fw (mE cI cZ cII cIII h0) h0 6325 u) t.heap ∧ va_K (dC, dI) vwCl (mT cI cZ cII cIII) t) (fA h0 6325 sz)) 0 0 (fA h0 6325 sz) := by
  refine Met.ofW (cc := cX10_dropsOldest) (maxL := 2) (ret := none) (by decide) rfl ?_
  intro p e s m args below meth c s₁ B hml hv
  obtain ⟨rfl, hsz, hP, hK⟩ := hv
  have hx := B.exec
  have hb := B.bytes
  have hr := B.returns
  have hts : ∀ w ∈ wsG, w.before _ s = true := hG_of (atoms_spec (ws := (Cond.code yX10_dropsOldest cX10_dropsOldest 2 none :: wsG)) B.pre)
  have hown : s.vm.findClass RX10 = some m.cls := findClass_of_methodNamed B.named
  have hlocks := B.notSynchronized
  subst hsz
  have hS : va_S (fA h0 6325 s.heap.size) s.heap s.heap [] := va_S.rf
  have hl := lv_entry ([.ref h0]) (n := 2) (Nat.le_of_ble_eq_true rfl)
  rw [lg_entry_eq]
  generalize (lg_sl ([.ref h0]) ++ List.replicate (2 - (lg_sl ([.ref h0])).length) Slot.unset).toArray = ls at hl ⊢
  have hl : lv_has ls 2 [(0, .ref h0)] := hl
  refine lv_iconst (v := iZ 1) hx hb dX10_dropsOldest_0 rfl ?_
  refine lv_istore_n (lv' := [(1, .int (iZ (1))), (0, .ref h0)]) hx hb dX10_dropsOldest_1 rfl hl (by decide) rfl (fun ls hl => ?_)
  refine LX10_dropsOldest_2x hx hb hml hown hts hK (Nat.le_of_ble_eq_true rfl) (Nat.le_of_ble_eq_true rfl) (Nat.le_of_ble_eq_true rfl) (Nat.le_of_ble_eq_true rfl) (μ) (Bs) (by exact hl16) (by exact hJB) ?_ _ (1) μ s.heap [] ls (by omega) (by exact fr_rfl) (by exact hb2) (by exact dX_0 hbk hl16) (by rw [hbk.1, hl16]; rfl) (Nat.lt_succ_self _) hP hS (lv_sub hl [0, 1] rfl)
  · intro k_3 μ3_ H locs ls q1_3 q2_3 hP hS hl
    have hl : lv_has ls 2 [(0, .ref h0)] := hl
    refine lv_aload_n hx hb dX10_dropsOldest_50 rfl (lv_at hl 0 rfl) ?_
    refine lv_dup hx hb dX10_dropsOldest_51 rfl ?_
    refine fz_get (D := (dC, dI)) (ci := 10) (v := .int (iZ (μ3_ 0 23))) (C := RX10) (T := TX10) (N := 53) hx hb hts inG10 hown hK hP (k := 0) (by decide) (F := mF h0) mE_obj rfl 23 (by decide) (hts _ k1189) (fun _ h9 => h9) rfl dX10_dropsOldest_52 ?_
    refine lv_iconst (v := iZ 1) hx hb dX10_dropsOldest_55 rfl ?_
    refine lv_isub hx hb dX10_dropsOldest_56 ?_
    refine lv_topi (fun x9 ex9 => ?_)
    obtain rfl : x9 = iZ ((μ3_ 0 23) - 1) := ex9.trans (iZ_sub _ _)
    refine fz_put (D := (dC, dI)) (ci := 10) (ty := .int) (z := ((μ3_ 0 23) - 1)) (C := RX10) (T := TX10) (N := 53) hx hb hts inG10 tyX10 tyX10_ok nmX10 hown hK hP fA_in hS (k := 0) (by decide) (F := mF h0) mE_obj rfl 23 (by decide) (hts _ k1189) (fun _ h9 => h9) rfl (by decide +kernel) rfl rfl (fun _ => Nat.le_of_ble_eq_true rfl) (fun _ _ => rfl) dX10_dropsOldest_57 (fun H locs hP hS => ?_)
    obtain ⟨μ4, eμ4⟩ : ∃ x : va_M, x = uz μ3_ 0 23 ((μ3_ 0 23) - 1) := ⟨_, rfl⟩
    rw [← eμ4] at hP
    exact W.vret hx hb hr (fun t9 ht9 hW9 => ⟨⟨μ4, rfl, (by
                try dsimp only
                obtain ⟨c1, c2, c3⟩ := q2_3
                subst eμ4
                exact ⟨fr_uz q1_3 (by unfold BF; omega), fun j hj => by rw [uz_n (by omega)]; exact c1 j hj, dX_end c2 hl16 (fr_uz fr_rfl ⟨rfl, rfl⟩) (by rw [uz_s]; omega), by rw [uz_s]; omega⟩), by rw [ht9]; exact hP, va_K.moved hW9.alike hK⟩, hS.F ht9⟩) hS.2.2 dX10_dropsOldest_60
set_option maxHeartbeats 4000000 in
set_option maxRecDepth 100000 in
theorem f_remembers (l : Launch) (dC : Nat → ClassId) (dI : Nat → Nat → Nat) (cI cZ cII cIII : ClassId) (h0 sz : Nat) (μ : va_M) (cost : Int) (w : Rw) (Bs : List Rw) (hb2 : ∀ j : Nat, j < 16 → μ 721 j = 0 ∨ μ 721 j = 1) (hbk : bkX μ Bs) (hl9 : Bs.length ≤ 16) (hJB : ∀ (i : Nat) (B : Rw), Bs[i]? = some B → skB B) (hT : TR μ 0 w) (hB : skB w) (h22 : μ 0 22 = 0 ∨ μ 0 22 = 1) (h22b : μ 0 22 = 0 ↔ w = .leaf) : Met l yX10_remembers (Cond.code yX10_remembers cX10_remembers 2 none :: wsG) ({ frames := 5, cells := 0, slots := 0, locals := 107 } : Room) (va_Pc [.ref h0, .int (iZ (cost))] (fun U => U.heap.size = sz ∧ va_P (dC, dI) vwCl (fw (mE cI cZ cII cIII h0) h0 6325 μ) U.heap ∧ va_K (dC, dI) vwCl (mT cI cZ cII cIII) U)) (va_Qv (fun (u : va_M) => fr BF μ u ∧ (∀ j : Nat, j < 16 → u 721 j = 0 ∨ u 721 j = 1) ∧ bkX u (w :: Bs.take 15)) (fun u t => va_P (dC, dI) vwCl (fw (mE cI cZ cII cIII h0) h0 6325 u) t.heap ∧ va_K (dC, dI) vwCl (mT cI cZ cII cIII) t) (fA h0 6325 sz)) 0 0 (fA h0 6325 sz) := by
  refine Met.ofW (cc := cX10_remembers) (maxL := 2) (ret := none) (by decide) rfl ?_
  intro p e s m args below meth c s₁ B hml hv
  obtain ⟨rfl, hsz, hP, hK⟩ := hv
  have hx := B.exec
  have hb := B.bytes
  have hr := B.returns
  have hts : ∀ w ∈ wsG, w.before _ s = true := hG_of (atoms_spec (ws := (Cond.code yX10_remembers cX10_remembers 2 none :: wsG)) B.pre)
  have hown : s.vm.findClass RX10 = some m.cls := findClass_of_methodNamed B.named
  have hlocks := B.notSynchronized
  subst hsz
  have hS : va_S (fA h0 6325 s.heap.size) s.heap s.heap [] := va_S.rf
  have hl := lv_entry ([.ref h0, .int (iZ (cost))]) (n := 2) (Nat.le_of_ble_eq_true rfl)
  rw [lg_entry_eq]
  generalize (lg_sl ([.ref h0, .int (iZ (cost))]) ++ List.replicate (2 - (lg_sl ([.ref h0, .int (iZ (cost))])).length) Slot.unset).toArray = ls at hl ⊢
  have hl : lv_has ls 2 [(0, .ref h0), (1, .int (iZ (cost)))] := hl
  have hb23 := hbk.1
  refine lv_aload_n hx hb dX10_remembers_0 rfl (lv_at hl 0 rfl) ?_
  refine fz_get (D := (dC, dI)) (ci := 10) (v := .int (iZ (μ 0 23))) (C := RX10) (T := TX10) (N := 53) hx hb hts inG10 hown hK hP (k := 0) (by decide) (F := mF h0) mE_obj rfl 23 (by decide) (hts _ k1189) (fun _ h9 => h9) rfl dX10_remembers_1 ?_
  refine lv_bipush (v := iZ 16) hx hb dX10_remembers_4 rfl ?_
  refine fz_icmp_ne (tgt := 13) (by constructor <;> omega) (by decide) hx hb dX10_remembers_6 (by decide) (fun c6_ => ?_) (fun c6_ => ?_)
  · obtain ⟨n9, Cs, d2, d3, d4, d5, d6⟩ : ∃ (n : Int) (Cs : List Rw), fr BF μ μ ∧ (∀ j : Nat, j < 16 → μ 721 j = 0 ∨ μ 721 j = 1) ∧ (bkX μ Cs ∧ μ 0 23 = n) ∧ (0 ≤ n ∧ n ≤ 15) ∧ Cs = Bs.take 15 := ⟨μ 0 23, Bs, fr_rfl, hb2, ⟨hbk, rfl⟩, ⟨by omega, by omega⟩, (List.take_of_length_le (by omega)).symm⟩
    have m23 : μ 0 23 = n9 := d4.2
    have m22 : μ 0 22 = μ 0 22 := d2 0 22 (by unfold BF; omega)
    have mT : TR μ 0 w := TR_fr hT d2 (fun x => by unfold BF; omega) (by unfold BF; omega)
    have nCs : n9 = Cs.length := d4.2.symm.trans d4.1.1
    refine lv_aload_n hx hb dX10_remembers_13 rfl (lv_at hl 0 rfl) ?_
    refine lv_dup hx hb dX10_remembers_14 rfl ?_
    refine fz_get (D := (dC, dI)) (ci := 10) (v := .int (iZ (μ 0 23))) (C := RX10) (T := TX10) (N := 53) hx hb hts inG10 hown hK hP (k := 0) (by decide) (F := mF h0) mE_obj rfl 23 (by decide) (hts _ k1189) (fun _ h9 => h9) rfl dX10_remembers_15 ?_
    rw [show μ 0 23 = n9 from (by exact m23)]
    refine lv_iconst (v := iZ 1) hx hb dX10_remembers_18 rfl ?_
    refine lv_iadd hx hb dX10_remembers_19 ?_
    refine lv_topi (fun x9 ex9 => ?_)
    obtain rfl : x9 = iZ (n9 + 1) := ex9.trans (iZ_add _ _)
    refine fz_put (D := (dC, dI)) (ci := 10) (ty := .int) (z := (n9 + 1)) (C := RX10) (T := TX10) (N := 53) hx hb hts inG10 tyX10 tyX10_ok nmX10 hown hK hP fA_in hS (k := 0) (by decide) (F := mF h0) mE_obj rfl 23 (by decide) (hts _ k1189) (fun _ h9 => h9) rfl (by decide +kernel) rfl rfl (fun _ => Nat.le_of_ble_eq_true rfl) (fun _ _ => rfl) dX10_remembers_20 (fun H locs hP hS => ?_)
    obtain ⟨μ1, eμ1⟩ : ∃ x : va_M, x = uz μ 0 23 (n9 + 1) := ⟨_, rfl⟩
    rw [← eμ1] at hP
    refine lv_aload_n hx hb dX10_remembers_23 rfl (lv_at hl 0 rfl) ?_
    refine lv_iconst (v := iZ 0) hx hb dX10_remembers_24 rfl ?_
    refine lv_aload_n hx hb dX10_remembers_25 rfl (lv_at hl 0 rfl) ?_
    refine fz_get (D := (dC, dI)) (ci := 10) (v := .int (iZ (μ1 0 23))) (C := RX10) (T := TX10) (N := 53) hx hb hts inG10 hown hK hP (k := 0) (by decide) (F := mF h0) mE_obj rfl 23 (by decide) (hts _ k1189) (fun _ h9 => h9) rfl dX10_remembers_26 ?_
    rw [show μ1 0 23 = n9 + 1 from by rw [eμ1, uz_s]]
    refine va_callv (va_runV (As := [.int (iZ (0)), .int (iZ (n9 + 1))]) (rest := []) ⟨hx, hb, hml, hown, hts⟩ (m_copiesAll l dC dI cI cZ cII cIII h0 H.size μ1 (0) (n9 + 1) (w) (by first | assumption | omega | exact ⟨by omega, by omega⟩) (by omega) (by omega) (by exact TR_fr (P := fun x y => x = 0 ∧ y = 23) mT (by rw [eμ1]; exact fr_uz fr_rfl ⟨rfl, rfl⟩) (fun x => by omega) (by omega)) (by exact hB.2.1)) (cwV 2 hts (gV_G k1428 k1430 ks_yX10_copiesAll k13 k1431) rfl rfl rfl (by decide +kernel) ⟨Nat.le_of_ble_eq_true rfl, Nat.le_of_ble_eq_true rfl⟩) ⟨fun a U g mk q => by obtain ⟨q0, q1, qP, qK⟩ := q; exact ⟨q0, q1, qP, va_K.moved (u := U) (U := U.calling g mk a) (Vm.Alike.refl U.vm) qK⟩, va_recv hK hP (ci := 10) (q0 := 0) rfl ((fw_get (by decide)).trans (by rw [mE_obj]; rfl)), fun U hU hW => ⟨rfl, by rw [hU], by rw [hU]; exact hP, va_K.moved hW.alike hK⟩⟩ rfl rfl hl.1 rfl (lv_room (Nat.le_of_ble_eq_true rfl)) dX10_remembers_29 ⟨Nat.le_of_ble_eq_true rfl, Nat.le_of_ble_eq_true rfl⟩) hS (fun q _ h => fA_le hS.1 q h) (fA_le hS.1) (fun u9 t9 H1 locs ht9 hvm9 hw9 hB9 hz9 hk9 hS => ?_)
    obtain ⟨hP, -⟩ := hB9
    rw [ht9] at hP
    generalize H1 = H at hP hS ⊢
    obtain ⟨μc, eμc⟩ : ∃ x : va_M, x = u9 := ⟨_, rfl⟩
    rw [← eμc] at hP hw9
    have hμc := hw9; clear hw9
    obtain ⟨c1, c2⟩ := hμc
    have c23 : μc 0 23 = n9 + 1 := by rw [c2 0 23 (by unfold PT; omega), eμ1, uz_s]
    have c22 : μc 0 22 = μ 0 22 := by rw [c2 0 22 (by unfold PT; omega), eμ1, uz_n (by omega)] <;> exact m22
    refine lv_aload_n hx hb dX10_remembers_32 rfl (lv_at hl 0 rfl) ?_
    refine fz_get (D := (dC, dI)) (ci := 10) (v := .ref (h0 + 720)) (C := RX10) (T := TX10) (N := 53) hx hb hts inG10 hown hK hP (k := 0) (by decide) (F := mF h0) mE_obj rfl 25 (by decide) (hts _ k1191) (fun _ h9 => h9) rfl dX10_remembers_33 ?_
    refine lv_aload_n hx hb dX10_remembers_36 rfl (lv_at hl 0 rfl) ?_
    refine fz_get (D := (dC, dI)) (ci := 10) (v := .int (iZ (μc 0 23))) (C := RX10) (T := TX10) (N := 53) hx hb hts inG10 hown hK hP (k := 0) (by decide) (F := mF h0) mE_obj rfl 23 (by decide) (hts _ k1189) (fun _ h9 => h9) rfl dX10_remembers_37 ?_
    rw [show μc 0 23 = (n9 + 1) from (by exact c23)]
    refine lv_iconst (v := iZ 1) hx hb dX10_remembers_40 rfl ?_
    refine lv_isub hx hb dX10_remembers_41 ?_
    refine lv_topi (fun x9 ex9 => ?_)
    obtain rfl : x9 = iZ (((n9 + 1)) - 1) := ex9.trans (iZ_sub _ _)
    refine lv_iload_n hx hb dX10_remembers_42 rfl (lv_at hl 1 rfl) ?_
    refine fz_st (k := 720) (n := 16) (i := (((n9 + 1)) - 1)) (z := cost) hx hb hK hP fA_in hS 0 (by decide) mE_backCost rfl ⟨by omega, by omega⟩ (by decide) dX10_remembers_43 (fun H locs hP hS => ?_)
    obtain ⟨μ2, eμ2⟩ : ∃ x : va_M, x = uz μc 720 (((n9 + 1)) - 1).toNat (cost) := ⟨_, rfl⟩
    rw [← eμ2] at hP
    refine lv_aload_n hx hb dX10_remembers_44 rfl (lv_at hl 0 rfl) ?_
    refine fz_get (D := (dC, dI)) (ci := 10) (v := .ref (h0 + 721)) (C := RX10) (T := TX10) (N := 53) hx hb hts inG10 hown hK hP (k := 0) (by decide) (F := mF h0) mE_obj rfl 26 (by decide) (hts _ k1192) (fun _ h9 => h9) rfl dX10_remembers_45 ?_
    refine lv_aload_n hx hb dX10_remembers_48 rfl (lv_at hl 0 rfl) ?_
    refine fz_get (D := (dC, dI)) (ci := 10) (v := .int (iZ (μ2 0 23))) (C := RX10) (T := TX10) (N := 53) hx hb hts inG10 hown hK hP (k := 0) (by decide) (F := mF h0) mE_obj rfl 23 (by decide) (hts _ k1189) (fun _ h9 => h9) rfl dX10_remembers_49 ?_
    rw [show μ2 0 23 = μc 0 23 from by rw [eμ2, uz_n (by omega)]]
    rw [show μc 0 23 = (n9 + 1) from (by exact c23)]
    refine lv_iconst (v := iZ 1) hx hb dX10_remembers_52 rfl ?_
    refine lv_isub hx hb dX10_remembers_53 ?_
    refine lv_topi (fun x9 ex9 => ?_)
    obtain rfl : x9 = iZ (((n9 + 1)) - 1) := ex9.trans (iZ_sub _ _)
    refine lv_aload_n hx hb dX10_remembers_54 rfl (lv_at hl 0 rfl) ?_
    refine fz_get (D := (dC, dI)) (ci := 10) (v := .int (iZ (μ2 0 22))) (C := RX10) (T := TX10) (N := 53) hx hb hts inG10 hown hK hP (k := 0) (by decide) (F := mF h0) mE_obj rfl 22 (by decide) (hts _ k1188) (fun _ h9 => h9) rfl dX10_remembers_55 ?_
    rw [show μ2 0 22 = μc 0 22 from by rw [eμ2, uz_n (by omega)]]
    rw [show μc 0 22 = μ 0 22 from (by exact c22)]
    refine fz_zst (k := 721) (n := 16) (i := (((n9 + 1)) - 1)) (z := (μ 0 22)) hx hb hK hP fA_in hS 1 (by decide) mE_backHad rfl ⟨by omega, by omega⟩ (by decide) (by omega) dX10_remembers_58 (fun H locs hP hS => ?_)
    obtain ⟨μ3, eμ3⟩ : ∃ x : va_M, x = uz μ2 721 (((n9 + 1)) - 1).toNat (μ 0 22) := ⟨_, rfl⟩
    rw [← eμ3] at hP
    exact W.vret hx hb hr (fun t9 ht9 hW9 => ⟨⟨μ3, rfl, (by
                try dsimp only
                have fc : fr BF μ μc := fr_trans d2 (fr_trans (by rw [eμ1]; exact fr_uz fr_rfl (by unfold BF; omega)) (fr_mono c2 (fun x y h => by unfold PT at h; unfold BF; omega)))
                have fu : fr BF μ μ3 := by rw [eμ3, eμ2]; exact fr_uz (fr_uz fc (by unfold BF; omega)) (by unfold BF; omega)
                have eN : (n9 + 1).toNat = Cs.length + 1 := by omega
                have eN2 : (n9 + 1 - 1).toNat = Cs.length := by omega
                rw [eN] at c1 c2
                refine ⟨fu, fun j hj => ?_, ?_⟩
                · rw [eμ3, eμ2]
                  by_cases h9 : j = (n9 + 1 - 1).toNat
                  · subst h9; rw [uz_s]; omega
                  · rw [uz_n (by omega), uz_n (by omega), c2 721 j (by unfold PT; omega), eμ1, uz_n (by omega)]; exact d3 j hj
                · have fz : fr (fun x y => x = 720 ∨ (x = 721 ∧ y = Cs.length)) μc μ3 := by rw [eμ3, eμ2, eN2]; exact fr_uz (fr_uz fr_rfl (Or.inl rfl)) (Or.inr ⟨rfl, rfl⟩)
                  rw [← d6]
                  refine bkX_cons d4.1 (by omega) (fr_trans (fr_trans (by rw [eμ1]; exact fr_uz fr_rfl (Or.inl ⟨rfl, rfl⟩)) (fr_mono c2 (fun x y h => Or.inr (Or.inl h)))) (fr_mono fz (fun x y h => Or.inr (Or.inr h)))) (TR_fr c1 fz (fun x => by omega) (by omega)) ?_ (by rw [fz 0 23 (by omega), c23]; omega)
                  rw [eμ3, eμ2, eN2, uz_s]
                  exact h22b), by rw [ht9]; exact hP, va_K.moved hW9.alike hK⟩, hS.F ht9⟩) hS.2.2 dX10_remembers_59
  · refine lv_aload_n hx hb dX10_remembers_9 rfl (lv_at hl 0 rfl) ?_
    refine va_callv (va_runV (As := []) (rest := []) ⟨hx, hb, hml, hown, hts⟩ (f_dropsOldest l dC dI cI cZ cII cIII h0 s.heap.size μ (Bs) (by exact hb2) (by exact hbk) (by have := hbk.1; omega) (by exact hJB)) (cwV 0 hts (gV_G k1480 k1482 ks_yX10_dropsOldest k13 k1483) rfl rfl rfl (by decide +kernel) ⟨Nat.le_of_ble_eq_true rfl, Nat.le_of_ble_eq_true rfl⟩) ⟨fun a U g mk q => by obtain ⟨q0, q1, qP, qK⟩ := q; exact ⟨q0, q1, qP, va_K.moved (u := U) (U := U.calling g mk a) (Vm.Alike.refl U.vm) qK⟩, va_recv hK hP (ci := 10) (q0 := 0) rfl ((fw_get (by decide)).trans (by rw [mE_obj]; rfl)), fun U hU hW => ⟨rfl, by rw [hU], by rw [hU]; exact hP, va_K.moved hW.alike hK⟩⟩ rfl rfl hl.1 rfl (lv_room (Nat.le_of_ble_eq_true rfl)) dX10_remembers_10 ⟨Nat.le_of_ble_eq_true rfl, Nat.le_of_ble_eq_true rfl⟩) hS (fun q _ h => fA_le hS.1 q h) (fA_le hS.1) (fun u9 t9 H1 locs ht9 hvm9 hw9 hB9 hz9 hk9 hS => ?_)
    obtain ⟨hP, -⟩ := hB9
    rw [ht9] at hP
    generalize H1 = H at hP hS ⊢
    obtain ⟨μa, eμa⟩ : ∃ x : va_M, x = u9 := ⟨_, rfl⟩
    rw [← eμa] at hP hw9
    have hμa := hw9; clear hw9
    obtain ⟨e1, e2, e3, e4⟩ := hμa
    obtain ⟨n9, Cs, d2, d3, d4, d5, d6⟩ : ∃ (n : Int) (Cs : List Rw), fr BF μ μa ∧ (∀ j : Nat, j < 16 → μa 721 j = 0 ∨ μa 721 j = 1) ∧ (bkX μa Cs ∧ μa 0 23 = n) ∧ (0 ≤ n ∧ n ≤ 15) ∧ Cs = Bs.take 15 := ⟨15, Bs.take 15, e1, e2, ⟨e3, e4⟩, ⟨by decide, by decide⟩, rfl⟩
    have m23 : μa 0 23 = n9 := d4.2
    have m22 : μa 0 22 = μ 0 22 := d2 0 22 (by unfold BF; omega)
    have mT : TR μa 0 w := TR_fr hT d2 (fun x => by unfold BF; omega) (by unfold BF; omega)
    have nCs : n9 = Cs.length := d4.2.symm.trans d4.1.1
    refine lv_aload_n hx hb dX10_remembers_13 rfl (lv_at hl 0 rfl) ?_
    refine lv_dup hx hb dX10_remembers_14 rfl ?_
    refine fz_get (D := (dC, dI)) (ci := 10) (v := .int (iZ (μa 0 23))) (C := RX10) (T := TX10) (N := 53) hx hb hts inG10 hown hK hP (k := 0) (by decide) (F := mF h0) mE_obj rfl 23 (by decide) (hts _ k1189) (fun _ h9 => h9) rfl dX10_remembers_15 ?_
    rw [show μa 0 23 = n9 from (by exact m23)]
    refine lv_iconst (v := iZ 1) hx hb dX10_remembers_18 rfl ?_
    refine lv_iadd hx hb dX10_remembers_19 ?_
    refine lv_topi (fun x9 ex9 => ?_)
    obtain rfl : x9 = iZ (n9 + 1) := ex9.trans (iZ_add _ _)
    refine fz_put (D := (dC, dI)) (ci := 10) (ty := .int) (z := (n9 + 1)) (C := RX10) (T := TX10) (N := 53) hx hb hts inG10 tyX10 tyX10_ok nmX10 hown hK hP fA_in hS (k := 0) (by decide) (F := mF h0) mE_obj rfl 23 (by decide) (hts _ k1189) (fun _ h9 => h9) rfl (by decide +kernel) rfl rfl (fun _ => Nat.le_of_ble_eq_true rfl) (fun _ _ => rfl) dX10_remembers_20 (fun H locs hP hS => ?_)
    obtain ⟨μ4, eμ4⟩ : ∃ x : va_M, x = uz μa 0 23 (n9 + 1) := ⟨_, rfl⟩
    rw [← eμ4] at hP
    refine lv_aload_n hx hb dX10_remembers_23 rfl (lv_at hl 0 rfl) ?_
    refine lv_iconst (v := iZ 0) hx hb dX10_remembers_24 rfl ?_
    refine lv_aload_n hx hb dX10_remembers_25 rfl (lv_at hl 0 rfl) ?_
    refine fz_get (D := (dC, dI)) (ci := 10) (v := .int (iZ (μ4 0 23))) (C := RX10) (T := TX10) (N := 53) hx hb hts inG10 hown hK hP (k := 0) (by decide) (F := mF h0) mE_obj rfl 23 (by decide) (hts _ k1189) (fun _ h9 => h9) rfl dX10_remembers_26 ?_
    rw [show μ4 0 23 = n9 + 1 from by rw [eμ4, uz_s]]
    refine va_callv (va_runV (As := [.int (iZ (0)), .int (iZ (n9 + 1))]) (rest := []) ⟨hx, hb, hml, hown, hts⟩ (m_copiesAll l dC dI cI cZ cII cIII h0 H.size μ4 (0) (n9 + 1) (w) (by first | assumption | omega | exact ⟨by omega, by omega⟩) (by omega) (by omega) (by exact TR_fr (P := fun x y => x = 0 ∧ y = 23) mT (by rw [eμ4]; exact fr_uz fr_rfl ⟨rfl, rfl⟩) (fun x => by omega) (by omega)) (by exact hB.2.1)) (cwV 2 hts (gV_G k1428 k1430 ks_yX10_copiesAll k13 k1431) rfl rfl rfl (by decide +kernel) ⟨Nat.le_of_ble_eq_true rfl, Nat.le_of_ble_eq_true rfl⟩) ⟨fun a U g mk q => by obtain ⟨q0, q1, qP, qK⟩ := q; exact ⟨q0, q1, qP, va_K.moved (u := U) (U := U.calling g mk a) (Vm.Alike.refl U.vm) qK⟩, va_recv hK hP (ci := 10) (q0 := 0) rfl ((fw_get (by decide)).trans (by rw [mE_obj]; rfl)), fun U hU hW => ⟨rfl, by rw [hU], by rw [hU]; exact hP, va_K.moved hW.alike hK⟩⟩ rfl rfl hl.1 rfl (lv_room (Nat.le_of_ble_eq_true rfl)) dX10_remembers_29 ⟨Nat.le_of_ble_eq_true rfl, Nat.le_of_ble_eq_true rfl⟩) hS (fun q _ h => fA_le hS.1 q h) (fA_le hS.1) (fun u9 t9 H1 locs ht9 hvm9 hw9 hB9 hz9 hk9 hS => ?_)
    obtain ⟨hP, -⟩ := hB9
    rw [ht9] at hP
    generalize H1 = H at hP hS ⊢
    obtain ⟨μc, eμc⟩ : ∃ x : va_M, x = u9 := ⟨_, rfl⟩
    rw [← eμc] at hP hw9
    have hμc := hw9; clear hw9
    obtain ⟨c1, c2⟩ := hμc
    have c23 : μc 0 23 = n9 + 1 := by rw [c2 0 23 (by unfold PT; omega), eμ4, uz_s]
    have c22 : μc 0 22 = μ 0 22 := by rw [c2 0 22 (by unfold PT; omega), eμ4, uz_n (by omega)] <;> exact m22
    refine lv_aload_n hx hb dX10_remembers_32 rfl (lv_at hl 0 rfl) ?_
    refine fz_get (D := (dC, dI)) (ci := 10) (v := .ref (h0 + 720)) (C := RX10) (T := TX10) (N := 53) hx hb hts inG10 hown hK hP (k := 0) (by decide) (F := mF h0) mE_obj rfl 25 (by decide) (hts _ k1191) (fun _ h9 => h9) rfl dX10_remembers_33 ?_
    refine lv_aload_n hx hb dX10_remembers_36 rfl (lv_at hl 0 rfl) ?_
    refine fz_get (D := (dC, dI)) (ci := 10) (v := .int (iZ (μc 0 23))) (C := RX10) (T := TX10) (N := 53) hx hb hts inG10 hown hK hP (k := 0) (by decide) (F := mF h0) mE_obj rfl 23 (by decide) (hts _ k1189) (fun _ h9 => h9) rfl dX10_remembers_37 ?_
    rw [show μc 0 23 = (n9 + 1) from (by exact c23)]
    refine lv_iconst (v := iZ 1) hx hb dX10_remembers_40 rfl ?_
    refine lv_isub hx hb dX10_remembers_41 ?_
    refine lv_topi (fun x9 ex9 => ?_)
    obtain rfl : x9 = iZ (((n9 + 1)) - 1) := ex9.trans (iZ_sub _ _)
    refine lv_iload_n hx hb dX10_remembers_42 rfl (lv_at hl 1 rfl) ?_
    refine fz_st (k := 720) (n := 16) (i := (((n9 + 1)) - 1)) (z := cost) hx hb hK hP fA_in hS 0 (by decide) mE_backCost rfl ⟨by omega, by omega⟩ (by decide) dX10_remembers_43 (fun H locs hP hS => ?_)
    obtain ⟨μ5, eμ5⟩ : ∃ x : va_M, x = uz μc 720 (((n9 + 1)) - 1).toNat (cost) := ⟨_, rfl⟩
    rw [← eμ5] at hP
    refine lv_aload_n hx hb dX10_remembers_44 rfl (lv_at hl 0 rfl) ?_
    refine fz_get (D := (dC, dI)) (ci := 10) (v := .ref (h0 + 721)) (C := RX10) (T := TX10) (N := 53) hx hb hts inG10 hown hK hP (k := 0) (by decide) (F := mF h0) mE_obj rfl 26 (by decide) (hts _ k1192) (fun _ h9 => h9) rfl dX10_remembers_45 ?_
    refine lv_aload_n hx hb dX10_remembers_48 rfl (lv_at hl 0 rfl) ?_
    refine fz_get (D := (dC, dI)) (ci := 10) (v := .int (iZ (μ5 0 23))) (C := RX10) (T := TX10) (N := 53) hx hb hts inG10 hown hK hP (k := 0) (by decide) (F := mF h0) mE_obj rfl 23 (by decide) (hts _ k1189) (fun _ h9 => h9) rfl dX10_remembers_49 ?_
    rw [show μ5 0 23 = μc 0 23 from by rw [eμ5, uz_n (by omega)]]
    rw [show μc 0 23 = (n9 + 1) from (by exact c23)]
    refine lv_iconst (v := iZ 1) hx hb dX10_remembers_52 rfl ?_
    refine lv_isub hx hb dX10_remembers_53 ?_
    refine lv_topi (fun x9 ex9 => ?_)
    obtain rfl : x9 = iZ (((n9 + 1)) - 1) := ex9.trans (iZ_sub _ _)
    refine lv_aload_n hx hb dX10_remembers_54 rfl (lv_at hl 0 rfl) ?_
    refine fz_get (D := (dC, dI)) (ci := 10) (v := .int (iZ (μ5 0 22))) (C := RX10) (T := TX10) (N := 53) hx hb hts inG10 hown hK hP (k := 0) (by decide) (F := mF h0) mE_obj rfl 22 (by decide) (hts _ k1188) (fun _ h9 => h9) rfl dX10_remembers_55 ?_
    rw [show μ5 0 22 = μc 0 22 from by rw [eμ5, uz_n (by omega)]]
    rw [show μc 0 22 = μ 0 22 from (by exact c22)]
    refine fz_zst (k := 721) (n := 16) (i := (((n9 + 1)) - 1)) (z := (μ 0 22)) hx hb hK hP fA_in hS 1 (by decide) mE_backHad rfl ⟨by omega, by omega⟩ (by decide) (by omega) dX10_remembers_58 (fun H locs hP hS => ?_)
    obtain ⟨μ6, eμ6⟩ : ∃ x : va_M, x = uz μ5 721 (((n9 + 1)) - 1).toNat (μ 0 22) := ⟨_, rfl⟩
    rw [← eμ6] at hP
    exact W.vret hx hb hr (fun t9 ht9 hW9 => ⟨⟨μ6, rfl, (by
                try dsimp only
                have fc : fr BF μ μc := fr_trans d2 (fr_trans (by rw [eμ4]; exact fr_uz fr_rfl (by unfold BF; omega)) (fr_mono c2 (fun x y h => by unfold PT at h; unfold BF; omega)))
                have fu : fr BF μ μ6 := by rw [eμ6, eμ5]; exact fr_uz (fr_uz fc (by unfold BF; omega)) (by unfold BF; omega)
                have eN : (n9 + 1).toNat = Cs.length + 1 := by omega
                have eN2 : (n9 + 1 - 1).toNat = Cs.length := by omega
                rw [eN] at c1 c2
                refine ⟨fu, fun j hj => ?_, ?_⟩
                · rw [eμ6, eμ5]
                  by_cases h9 : j = (n9 + 1 - 1).toNat
                  · subst h9; rw [uz_s]; omega
                  · rw [uz_n (by omega), uz_n (by omega), c2 721 j (by unfold PT; omega), eμ4, uz_n (by omega)]; exact d3 j hj
                · have fz : fr (fun x y => x = 720 ∨ (x = 721 ∧ y = Cs.length)) μc μ6 := by rw [eμ6, eμ5, eN2]; exact fr_uz (fr_uz fr_rfl (Or.inl rfl)) (Or.inr ⟨rfl, rfl⟩)
                  rw [← d6]
                  refine bkX_cons d4.1 (by omega) (fr_trans (fr_trans (by rw [eμ4]; exact fr_uz fr_rfl (Or.inl ⟨rfl, rfl⟩)) (fr_mono c2 (fun x y h => Or.inr (Or.inl h)))) (fr_mono fz (fun x y h => Or.inr (Or.inr h)))) (TR_fr c1 fz (fun x => by omega) (by omega)) ?_ (by rw [fz 0 23 (by omega), c23]; omega)
                  rw [eμ6, eμ5, eN2, uz_s]
                  exact h22b), by rw [ht9]; exact hP, va_K.moved hW9.alike hK⟩, hS.F ht9⟩) hS.2.2 dX10_remembers_59

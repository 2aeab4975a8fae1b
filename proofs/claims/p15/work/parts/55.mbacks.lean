theorem k1188 : (Cond.fieldLink "PageSkeletonModel" (325 : Nat) "PageSkeletonModel" "hasSkeleton" "Z") ∈ wsG := wsG_at 1188 (by decide +kernel) (by decide +kernel)
theorem k1480 : (Cond.methodLink "PageSkeletonModel" (322 : Nat) ({ cls := "PageSkeletonModel", name := "dropsOldest", desc := "()V" } : MethodName)) ∈ wsG := wsG_at 1480 (by decide +kernel) (by decide +kernel)
theorem k1482 : (Cond.instanceMethod ({ cls := "PageSkeletonModel", name := "dropsOldest", desc := "()V" } : MethodName)) ∈ wsG := wsG_at 1482 (by decide +kernel) (by decide +kernel)
theorem k1483 : (Cond.code ({ cls := "PageSkeletonModel", name := "dropsOldest", desc := "()V" } : MethodName) prog_12_method_55_code (2 : Nat) (Option.none : Option Jvm.ClassFile.FieldType)) ∈ wsG := wsG_at 1483 (by decide +kernel) (by decide +kernel)
theorem ks_yX10_dropsOldest : Cond.selects RX10 yX10_dropsOldest yX10_dropsOldest ∈ wsG := wsG_mem (by decide +kernel) (by decide +kernel)
theorem dX10_dropsOldest_0 : decode cX10_dropsOldest 0 = .ok (.iconst 1, 1) := by decide +kernel
theorem dX10_dropsOldest_1 : decode cX10_dropsOldest 1 = .ok (.istore_n 1, 1) := by decide +kernel
theorem dX10_dropsOldest_2 : decode cX10_dropsOldest 2 = .ok (.iload_n 1, 1) := by decide +kernel
theorem dX10_dropsOldest_3 : decode cX10_dropsOldest 3 = .ok (.bipush 16, 2) := by decide +kernel
theorem dX10_dropsOldest_5 : decode cX10_dropsOldest 5 = .ok (.if_icmp .ge 45, 3) := by decide +kernel
theorem dX10_dropsOldest_8 : decode cX10_dropsOldest 8 = .ok (.aload_n 0, 1) := by decide +kernel
theorem dX10_dropsOldest_9 : decode cX10_dropsOldest 9 = .ok (.iload_n 1, 1) := by decide +kernel
theorem dX10_dropsOldest_10 : decode cX10_dropsOldest 10 = .ok (.iconst 1, 1) := by decide +kernel
theorem dX10_dropsOldest_11 : decode cX10_dropsOldest 11 = .ok (.iadd, 1) := by decide +kernel
theorem dX10_dropsOldest_12 : decode cX10_dropsOldest 12 = .ok (.iload_n 1, 1) := by decide +kernel
theorem dX10_dropsOldest_13 : decode cX10_dropsOldest 13 = .ok (.invokevirtual 241, 3) := by decide +kernel
theorem dX10_dropsOldest_16 : decode cX10_dropsOldest 16 = .ok (.aload_n 0, 1) := by decide +kernel
theorem dX10_dropsOldest_17 : decode cX10_dropsOldest 17 = .ok (.getfield 57, 3) := by decide +kernel
theorem dX10_dropsOldest_20 : decode cX10_dropsOldest 20 = .ok (.iload_n 1, 1) := by decide +kernel
theorem dX10_dropsOldest_21 : decode cX10_dropsOldest 21 = .ok (.iconst 1, 1) := by decide +kernel
theorem dX10_dropsOldest_22 : decode cX10_dropsOldest 22 = .ok (.isub, 1) := by decide +kernel
theorem dX10_dropsOldest_23 : decode cX10_dropsOldest 23 = .ok (.aload_n 0, 1) := by decide +kernel
theorem dX10_dropsOldest_24 : decode cX10_dropsOldest 24 = .ok (.getfield 57, 3) := by decide +kernel
theorem dX10_dropsOldest_27 : decode cX10_dropsOldest 27 = .ok (.iload_n 1, 1) := by decide +kernel
theorem dX10_dropsOldest_28 : decode cX10_dropsOldest 28 = .ok (.iaload, 1) := by decide +kernel
theorem dX10_dropsOldest_29 : decode cX10_dropsOldest 29 = .ok (.iastore, 1) := by decide +kernel
theorem dX10_dropsOldest_30 : decode cX10_dropsOldest 30 = .ok (.aload_n 0, 1) := by decide +kernel
theorem dX10_dropsOldest_31 : decode cX10_dropsOldest 31 = .ok (.getfield 60, 3) := by decide +kernel
theorem dX10_dropsOldest_34 : decode cX10_dropsOldest 34 = .ok (.iload_n 1, 1) := by decide +kernel
theorem dX10_dropsOldest_35 : decode cX10_dropsOldest 35 = .ok (.iconst 1, 1) := by decide +kernel
theorem dX10_dropsOldest_36 : decode cX10_dropsOldest 36 = .ok (.isub, 1) := by decide +kernel
theorem dX10_dropsOldest_37 : decode cX10_dropsOldest 37 = .ok (.aload_n 0, 1) := by decide +kernel
theorem dX10_dropsOldest_38 : decode cX10_dropsOldest 38 = .ok (.getfield 60, 3) := by decide +kernel
theorem dX10_dropsOldest_41 : decode cX10_dropsOldest 41 = .ok (.iload_n 1, 1) := by decide +kernel
theorem dX10_dropsOldest_42 : decode cX10_dropsOldest 42 = .ok (.baload, 1) := by decide +kernel
theorem dX10_dropsOldest_43 : decode cX10_dropsOldest 43 = .ok (.bastore, 1) := by decide +kernel
theorem dX10_dropsOldest_44 : decode cX10_dropsOldest 44 = .ok (.iinc 1 1, 3) := by decide +kernel
theorem dX10_dropsOldest_47 : decode cX10_dropsOldest 47 = .ok (.goto (-45), 3) := by decide +kernel
theorem dX10_dropsOldest_50 : decode cX10_dropsOldest 50 = .ok (.aload_n 0, 1) := by decide +kernel
theorem dX10_dropsOldest_51 : decode cX10_dropsOldest 51 = .ok (.dup, 1) := by decide +kernel
theorem dX10_dropsOldest_52 : decode cX10_dropsOldest 52 = .ok (.getfield 319, 3) := by decide +kernel
theorem dX10_dropsOldest_55 : decode cX10_dropsOldest 55 = .ok (.iconst 1, 1) := by decide +kernel
theorem dX10_dropsOldest_56 : decode cX10_dropsOldest 56 = .ok (.isub, 1) := by decide +kernel
theorem dX10_dropsOldest_57 : decode cX10_dropsOldest 57 = .ok (.putfield 319, 3) := by decide +kernel
theorem dX10_dropsOldest_60 : decode cX10_dropsOldest 60 = .ok (.return_, 1) := by decide +kernel
theorem dX10_remembers_0 : decode cX10_remembers 0 = .ok (.aload_n 0, 1) := by decide +kernel
theorem dX10_remembers_1 : decode cX10_remembers 1 = .ok (.getfield 319, 3) := by decide +kernel
theorem dX10_remembers_4 : decode cX10_remembers 4 = .ok (.bipush 16, 2) := by decide +kernel
theorem dX10_remembers_6 : decode cX10_remembers 6 = .ok (.if_icmp .ne 7, 3) := by decide +kernel
theorem dX10_remembers_9 : decode cX10_remembers 9 = .ok (.aload_n 0, 1) := by decide +kernel
theorem dX10_remembers_10 : decode cX10_remembers 10 = .ok (.invokevirtual 322, 3) := by decide +kernel
theorem dX10_remembers_13 : decode cX10_remembers 13 = .ok (.aload_n 0, 1) := by decide +kernel
theorem dX10_remembers_14 : decode cX10_remembers 14 = .ok (.dup, 1) := by decide +kernel
theorem dX10_remembers_15 : decode cX10_remembers 15 = .ok (.getfield 319, 3) := by decide +kernel
theorem dX10_remembers_18 : decode cX10_remembers 18 = .ok (.iconst 1, 1) := by decide +kernel
theorem dX10_remembers_19 : decode cX10_remembers 19 = .ok (.iadd, 1) := by decide +kernel
theorem dX10_remembers_20 : decode cX10_remembers 20 = .ok (.putfield 319, 3) := by decide +kernel
theorem dX10_remembers_23 : decode cX10_remembers 23 = .ok (.aload_n 0, 1) := by decide +kernel
theorem dX10_remembers_24 : decode cX10_remembers 24 = .ok (.iconst 0, 1) := by decide +kernel
theorem dX10_remembers_25 : decode cX10_remembers 25 = .ok (.aload_n 0, 1) := by decide +kernel
theorem dX10_remembers_26 : decode cX10_remembers 26 = .ok (.getfield 319, 3) := by decide +kernel
theorem dX10_remembers_29 : decode cX10_remembers 29 = .ok (.invokevirtual 241, 3) := by decide +kernel
theorem dX10_remembers_32 : decode cX10_remembers 32 = .ok (.aload_n 0, 1) := by decide +kernel
theorem dX10_remembers_33 : decode cX10_remembers 33 = .ok (.getfield 57, 3) := by decide +kernel
theorem dX10_remembers_36 : decode cX10_remembers 36 = .ok (.aload_n 0, 1) := by decide +kernel
theorem dX10_remembers_37 : decode cX10_remembers 37 = .ok (.getfield 319, 3) := by decide +kernel
theorem dX10_remembers_40 : decode cX10_remembers 40 = .ok (.iconst 1, 1) := by decide +kernel
theorem dX10_remembers_41 : decode cX10_remembers 41 = .ok (.isub, 1) := by decide +kernel
theorem dX10_remembers_42 : decode cX10_remembers 42 = .ok (.iload_n 1, 1) := by decide +kernel
theorem dX10_remembers_43 : decode cX10_remembers 43 = .ok (.iastore, 1) := by decide +kernel
theorem dX10_remembers_44 : decode cX10_remembers 44 = .ok (.aload_n 0, 1) := by decide +kernel
theorem dX10_remembers_45 : decode cX10_remembers 45 = .ok (.getfield 60, 3) := by decide +kernel
theorem dX10_remembers_48 : decode cX10_remembers 48 = .ok (.aload_n 0, 1) := by decide +kernel
theorem dX10_remembers_49 : decode cX10_remembers 49 = .ok (.getfield 319, 3) := by decide +kernel
theorem dX10_remembers_52 : decode cX10_remembers 52 = .ok (.iconst 1, 1) := by decide +kernel
theorem dX10_remembers_53 : decode cX10_remembers 53 = .ok (.isub, 1) := by decide +kernel
theorem dX10_remembers_54 : decode cX10_remembers 54 = .ok (.aload_n 0, 1) := by decide +kernel
theorem dX10_remembers_55 : decode cX10_remembers 55 = .ok (.getfield 325, 3) := by decide +kernel
theorem dX10_remembers_58 : decode cX10_remembers 58 = .ok (.bastore, 1) := by decide +kernel
theorem dX10_remembers_59 : decode cX10_remembers 59 = .ok (.return_, 1) := by decide +kernel
/-! the steps back; J is what is kept of each skeleton -/
def BF (x y : Nat) : Prop := (508 ≤ x ∧ x < 524) ∨ (579 ≤ x ∧ x < 595) ∨ (650 ≤ x ∧ x < 666) ∨ (x = 719 ∧ 1 ≤ y ∧ y ≤ 16) ∨ x = 720 ∨ x = 721 ∨ (x = 0 ∧ y = 23)
def KF (x y : Nat) : Prop := PS x y ∨ PT 0 x y ∨ BF x y ∨ (x = 0 ∧ (y = 22 ∨ y = 24))
def bkT (J : Rw → Prop) (μ : va_M) (n : Int) : Prop := ∀ k : Nat, 1 ≤ k → (k : Int) ≤ n → ∃ w : Rw, J w ∧ skB w ∧ TR μ k w
def bkR (J : Rw → Prop) (μ : va_M) : Prop := (0 ≤ μ 0 23 ∧ μ 0 23 ≤ 16) ∧ (μ 0 22 = 0 ∨ μ 0 22 = 1) ∧ (∀ k : Nat, k < 16 → μ 721 k = 0 ∨ μ 721 k = 1) ∧ bkT J μ (μ 0 23)
def RI (J : Rw → Prop) (μ : va_M) : Prop := RQ μ ∧ (∃ w : Rw, J w ∧ skB w ∧ TR μ 0 w) ∧ bkR J μ
theorem KF_n {x y : Nat} (h : (x = 0 ∧ (y = 2 ∨ y = 5 ∨ y = 9 ∨ y = 10)) ∨ (2 ≤ x ∧ x < 507) ∨ (524 ≤ x ∧ x < 532) ∨ (595 ≤ x ∧ x < 603) ∨ (666 ≤ x ∧ x < 674) ∨ (x = 719 ∧ 17 ≤ y ∧ y < 25)) : ¬ KF x y := by unfold KF PS PT BF; omega
theorem RQ_to {μ u : va_M} (h : RQ μ) (hf : fr KF μ u) (hs : ∃ w : Rw, skB w ∧ TR u 0 w) : RQ u := by
  obtain ⟨a1, ⟨T, a2, a3⟩, a4, a5, _⟩ := h
  have e10 := hf 0 10 (KF_n (by omega))
  have e9 := hf 0 9 (KF_n (by omega))
  refine ⟨by omega, ⟨T, tabR_fr a2 hf (KF_n (by omega)) (fun k => ⟨KF_n (by omega), KF_n (by omega), KF_n (by omega)⟩), a3⟩, fun j hj => by rw [hf 3 j (KF_n (by omega))]; exact a4 j hj, fun i hi => ?_, hs⟩
  obtain ⟨b1, b2, b3, w2, b4, b5, b6⟩ := a5 i (by omega)
  refine ⟨by rw [hf 15 i (KF_n (by omega))]; exact b1, by rw [hf 505 i (KF_n (by omega))]; exact b2, fun k hk => ?_, w2, b4, b5, TR_fr b6 hf (fun x => ⟨KF_n (by omega), KF_n (by omega), KF_n (by omega)⟩) (KF_n (by omega))⟩
  rw [hf 15 i (KF_n (by omega))] at hk
  rw [hf (7 + i) k (KF_n (by omega)), e9]
  exact b3 k hk
theorem RI_PS {J : Rw → Prop} {μ u : va_M} (h : RI J μ) (hf : fr PS μ u) : RI J u := by
  obtain ⟨h1, ⟨w, w1, w2, w3⟩, b1, b2, b3, b4⟩ := h
  have e23 := hf 0 23 (PS_n (by omega))
  have e22 := hf 0 22 (PS_n (by omega))
  refine ⟨RQ_fr h1 hf, ⟨w, w1, w2, TR_PS w3 hf (by omega)⟩, by omega, by omega, fun k hk => by rw [hf 721 k (PS_n (by omega))]; exact b3 k hk, fun k h1 h2 => ?_⟩
  obtain ⟨v, v1, v2, v3⟩ := b4 k h1 (by omega)
  exact ⟨v, v1, v2, TR_PS v3 hf (by omega)⟩
set_option maxHeartbeats 4000000 in
set_option maxRecDepth 100000 in
theorem LX10_dropsOldest_2 {p : Program} {l : Launch} {e : Env} {R : Room} {s : State} {m : MethodId} {args : Array Value} {below : List Frame} {meth : Method} {c : Code} {cells slots : Nat} {Q : State → Prop} {dC : Nat → ClassId} {dI : Nat → Nat → Nat} {h0 : Nat} {cI cZ cII cIII : ClassId} (hx : p.tables.exec = Jvm.exec) (hb : c.code = cX10_dropsOldest) (hml : c.maxLocals = 2) (hown : s.vm.findClass RX10 = some m.cls) (hts : ∀ w ∈ wsG, w.before args s = true) (hK : va_K (dC, dI) vwCl (mT cI cZ cII cIII) s) (hRf : 4 ≤ R.frames) (hRl : 86 ≤ R.locals) (hRc : cells ≤ R.cells) (hRs : slots ≤ R.slots) (μ0 : va_M) (J : Rw → Prop) (hexit50 : ∀ (k : Int) (μ : va_M) (H : Heap) (locs : List Loc) (ls : Array Slot), (fr BF μ0 μ) → ((∀ j : Nat, j < 16 → μ 721 j = 0 ∨ μ 721 j = 1) ∧ bkT J μ 16 ∧ μ 0 23 = 16) → va_P (dC, dI) vwCl (fw (mE cI cZ cII cIII h0) h0 6325 μ) H → va_S (fA h0 6325 s.heap.size) s.heap H locs → lv_has ls 2 [(0, .ref h0)] → W p l e R s m args below meth c H locs cells slots Q (F0 m 50 ls [])) :
    ∀ (n9 : Nat) (k : Int) (μ : va_M) (H : Heap) (locs : List Loc) (ls : Array Slot), (1 ≤ k ∧ k ≤ 16) → (fr BF μ0 μ) → (∀ j : Nat, j < 16 → μ 721 j = 0 ∨ μ 721 j = 1) → (bkT J μ 16) → (μ 0 23 = 16) → (20 - k).toNat < n9 → va_P (dC, dI) vwCl (fw (mE cI cZ cII cIII h0) h0 6325 μ) H → va_S (fA h0 6325 s.heap.size) s.heap H locs → lv_has ls 2 [(1, .int (iZ (k))), (0, .ref h0)] → W p l e R s m args below meth c H locs cells slots Q (F0 m 2 ls []) := by
  intro n9
  induction n9 with
  | zero => intro k μ H locs ls hk hf hb2 ht h23 hm9 hP hS hl; exact absurd hm9 (Nat.not_lt_zero _)
  | succ n9 ih =>
    intro k μ H locs ls hk hf hb2 ht h23 hm9 hP hS hl
    refine lv_iload_n hx hb dX10_dropsOldest_2 rfl (lv_at hl 0 rfl) ?_
    refine lv_bipush (v := iZ 16) hx hb dX10_dropsOldest_3 rfl ?_
    refine fz_icmp_ge (tgt := 50) (by constructor <;> omega) (by decide) hx hb dX10_dropsOldest_5 (by decide) (fun c5_ => ?_) (fun c5_ => ?_)
    · exact hexit50 (k) μ H locs ls (by exact hf) (by exact ⟨hb2, ht, h23⟩) hP hS (lv_sub hl [1] rfl)
    · obtain ⟨wk, k1, k2, k3⟩ := ht (k.toNat + 1) (by omega) (by omega)
      have ek : (k + 1).toNat = k.toNat + 1 := by omega
      refine lv_aload_n hx hb dX10_dropsOldest_8 rfl (lv_at hl 1 rfl) ?_
      refine lv_iload_n hx hb dX10_dropsOldest_9 rfl (lv_at hl 0 rfl) ?_
      refine lv_iconst (v := iZ 1) hx hb dX10_dropsOldest_10 rfl ?_
      refine lv_iadd hx hb dX10_dropsOldest_11 ?_
      refine lv_topi (fun x9 ex9 => ?_)
      obtain rfl : x9 = iZ (k + 1) := ex9.trans (iZ_add _ _)
      refine lv_iload_n hx hb dX10_dropsOldest_12 rfl (lv_at hl 0 rfl) ?_
      refine va_callv (va_runV (As := [.int (iZ (k + 1)), .int (iZ (k))]) (rest := []) ⟨hx, hb, hml, hown, hts⟩ (m_copiesAll l dC dI cI cZ cII cIII h0 H.size μ (k + 1) (k) (wk) (by first | assumption | omega | exact ⟨by omega, by omega⟩) (by first | assumption | omega | exact ⟨by omega, by omega⟩) (by omega) (by rw [ek]; exact k3) (by exact k2.2.1)) (cwV 2 hts (gV_G k1428 k1430 ks_yX10_copiesAll k13 k1431) rfl rfl rfl (by decide +kernel) ⟨by show 3 + 1 ≤ _; omega, by show 8 + (4 + 11) + (63) ≤ _; omega⟩) ⟨fun a U g mk q => by obtain ⟨q0, q1, qP, qK⟩ := q; exact ⟨q0, q1, qP, va_K.moved (u := U) (U := U.calling g mk a) (Vm.Alike.refl U.vm) qK⟩, va_recv hK hP (ci := 10) (q0 := 0) rfl ((fw_get (by decide)).trans (by rw [mE_obj]; rfl)), fun U hU hW => ⟨rfl, by rw [hU], by rw [hU]; exact hP, va_K.moved hW.alike hK⟩⟩ rfl rfl hl.1 rfl (lv_room (Nat.le_of_ble_eq_true rfl)) dX10_dropsOldest_13 ⟨hRc, hRs⟩) hS (fun q _ h => fA_le hS.1 q h) (fA_le hS.1) (fun u9 t9 H1 locs ht9 hvm9 hw9 hB9 hz9 hk9 hS => ?_)
      obtain ⟨hP, -⟩ := hB9
      rw [ht9] at hP
      generalize H1 = H at hP hS ⊢
      obtain ⟨μa, eμa⟩ : ∃ x : va_M, x = u9 := ⟨_, rfl⟩
      rw [← eμa] at hP hw9
      have hμa := hw9; clear hw9
      obtain ⟨c1, c2⟩ := hμa
      have fa : fr BF μ0 μa := fr_trans hf (fr_mono c2 (fun x y h => by unfold PT at h; unfold BF; omega))
      have a23 : μa 0 23 = 16 := by rw [c2 0 23 (by unfold PT; omega)]; exact h23
      have ab : ∀ j : Nat, j < 16 → μa 721 j = 0 ∨ μa 721 j = 1 := fun j hj => by rw [c2 721 j (by unfold PT; omega)]; exact hb2 j hj
      have at9 : bkT J μa 16 := fun j h1 h2 => by
        by_cases h9 : j = k.toNat
        · subst h9; exact ⟨wk, k1, k2, c1⟩
        · obtain ⟨v, v1, v2, v3⟩ := ht j h1 h2
          exact ⟨v, v1, v2, TR_fr v3 c2 (fun x => by unfold PT; omega) (by unfold PT; omega)⟩
      have abk := ab k.toNat (by omega)
      refine lv_aload_n hx hb dX10_dropsOldest_16 rfl (lv_at hl 1 rfl) ?_
      refine fz_get (D := (dC, dI)) (ci := 10) (v := .ref (h0 + 720)) (C := RX10) (T := TX10) (N := 53) hx hb hts inG10 hown hK hP (k := 0) (by decide) (F := mF h0) mE_obj rfl 25 (by decide) (hts _ k1191) (fun _ h9 => h9) rfl dX10_dropsOldest_17 ?_
      refine lv_iload_n hx hb dX10_dropsOldest_20 rfl (lv_at hl 0 rfl) ?_
      refine lv_iconst (v := iZ 1) hx hb dX10_dropsOldest_21 rfl ?_
      refine lv_isub hx hb dX10_dropsOldest_22 ?_
      refine lv_topi (fun x9 ex9 => ?_)
      obtain rfl : x9 = iZ (k - 1) := ex9.trans (iZ_sub _ _)
      refine lv_aload_n hx hb dX10_dropsOldest_23 rfl (lv_at hl 1 rfl) ?_
      refine fz_get (D := (dC, dI)) (ci := 10) (v := .ref (h0 + 720)) (C := RX10) (T := TX10) (N := 53) hx hb hts inG10 hown hK hP (k := 0) (by decide) (F := mF h0) mE_obj rfl 25 (by decide) (hts _ k1191) (fun _ h9 => h9) rfl dX10_dropsOldest_24 ?_
      refine lv_iload_n hx hb dX10_dropsOldest_27 rfl (lv_at hl 0 rfl) ?_
      refine fz_ld (k := 720) (n := 16) hx hb hK hP 0 (by decide) mE_backCost rfl ⟨by omega, by omega⟩ (by decide) dX10_dropsOldest_28 ?_
      refine fz_st (k := 720) (n := 16) (i := (k - 1)) (z := (μa 720 (k).toNat)) hx hb hK hP fA_in hS 0 (by decide) mE_backCost rfl ⟨by omega, by omega⟩ (by decide) dX10_dropsOldest_29 (fun H locs hP hS => ?_)
      obtain ⟨μ1, eμ1⟩ : ∃ x : va_M, x = uz μa 720 (k - 1).toNat (μa 720 (k).toNat) := ⟨_, rfl⟩
      rw [← eμ1] at hP
      refine lv_aload_n hx hb dX10_dropsOldest_30 rfl (lv_at hl 1 rfl) ?_
      refine fz_get (D := (dC, dI)) (ci := 10) (v := .ref (h0 + 721)) (C := RX10) (T := TX10) (N := 53) hx hb hts inG10 hown hK hP (k := 0) (by decide) (F := mF h0) mE_obj rfl 26 (by decide) (hts _ k1192) (fun _ h9 => h9) rfl dX10_dropsOldest_31 ?_
      refine lv_iload_n hx hb dX10_dropsOldest_34 rfl (lv_at hl 0 rfl) ?_
      refine lv_iconst (v := iZ 1) hx hb dX10_dropsOldest_35 rfl ?_
      refine lv_isub hx hb dX10_dropsOldest_36 ?_
      refine lv_topi (fun x9 ex9 => ?_)
      obtain rfl : x9 = iZ (k - 1) := ex9.trans (iZ_sub _ _)
      refine lv_aload_n hx hb dX10_dropsOldest_37 rfl (lv_at hl 1 rfl) ?_
      refine fz_get (D := (dC, dI)) (ci := 10) (v := .ref (h0 + 721)) (C := RX10) (T := TX10) (N := 53) hx hb hts inG10 hown hK hP (k := 0) (by decide) (F := mF h0) mE_obj rfl 26 (by decide) (hts _ k1192) (fun _ h9 => h9) rfl dX10_dropsOldest_38 ?_
      refine lv_iload_n hx hb dX10_dropsOldest_41 rfl (lv_at hl 0 rfl) ?_
      refine fz_zld (k := 721) (n := 16) hx hb hK hP 1 (by decide) mE_backHad rfl ⟨by omega, by omega⟩ (by decide) dX10_dropsOldest_42 ?_
      rw [show μ1 721 (k).toNat = μa 721 (k).toNat from by rw [eμ1, uz_n (by omega)]]
      refine fz_zst (k := 721) (n := 16) (i := (k - 1)) (z := (μa 721 (k).toNat)) hx hb hK hP fA_in hS 1 (by decide) mE_backHad rfl ⟨by omega, by omega⟩ (by decide) (by omega) dX10_dropsOldest_43 (fun H locs hP hS => ?_)
      obtain ⟨μ2, eμ2⟩ : ∃ x : va_M, x = uz μ1 721 (k - 1).toNat (μa 721 (k).toNat) := ⟨_, rfl⟩
      rw [← eμ2] at hP
      refine lv_iinc (v := iZ (k + 1)) (lv' := [(1, .int (iZ (k + 1))), (0, .ref h0)]) hx hb dX10_dropsOldest_44 hl (k := 0) rfl (iZ_add _ _) (by decide) rfl (fun ls hl => ?_)
      refine lv_goto (tgt := 2) hx hb dX10_dropsOldest_47 (by decide) ?_
      exact ih (k + 1) μ2 H locs ls (by omega) (by
                    subst eμ2 eμ1
                    exact fr_uz (fr_uz fa (by unfold BF; omega)) (by unfold BF; omega)) (by
                    subst eμ2 eμ1
                    intro j hj
                    by_cases h9 : j = (k - 1).toNat
                    · subst h9; rw [uz_s]; omega
                    · rw [uz_n (by omega), uz_n (by omega)]; exact ab j hj) (by
                    subst eμ2 eμ1
                    intro j h1 h2
                    obtain ⟨v, v1, v2, v3⟩ := at9 j h1 h2
                    exact ⟨v, v1, v2, TR_fr (P := fun x _ => x = 720 ∨ x = 721) v3 (fr_uz (fr_uz fr_rfl (Or.inl rfl)) (Or.inr rfl)) (fun x => by omega) (by omega)⟩) (by
                    subst eμ2 eμ1
                    rw [uz_n (by omega), uz_n (by omega)]; exact a23) (by omega) hP hS (lv_sub hl [0, 1] rfl)
set_option maxHeartbeats 4000000 in
set_option maxRecDepth 100000 in
theorem m_dropsOldest (l : Launch) (dC : Nat → ClassId) (dI : Nat → Nat → Nat) (cI cZ cII cIII : ClassId) (h0 sz : Nat) (μ : va_M) (J : Rw → Prop) (hb2 : ∀ j : Nat, j < 16 → μ 721 j = 0 ∨ μ 721 j = 1) (ht : bkT J μ 16) (h23 : μ 0 23 = 16) : Met l yX10_dropsOldest (Cond.code yX10_dropsOldest cX10_dropsOldest 2 none :: wsG) ({ frames := 4, cells := 0, slots := 0, locals := 86 } : Room) (va_Pc [.ref h0] (fun U => U.heap.size = sz ∧ va_P (dC, dI) vwCl (fw (mE cI cZ cII cIII h0) h0 6325 μ) U.heap ∧ va_K (dC, dI) vwCl (mT cI cZ cII cIII) U)) (va_Qv (fun (u : va_M) => fr BF μ u ∧ (∀ j : Nat, j < 16 → u 721 j = 0 ∨ u 721 j = 1) ∧ bkT J u 15 ∧ u 0 23 = 15) (fun u t => va_P (dC, dI) vwCl (fw (mE cI cZ cII cIII h0) h0 6325 u) t.heap ∧ va_K (dC, dI) vwCl (mT cI cZ cII cIII) t) (fA h0 6325 sz)) 0 0 (fA h0 6325 sz) := by
  refine Met.ofW (cc := cX10_dropsOldest) (maxL := 2) (ret := none) (by decide) rfl ?_
  intro p e s m args below meth c s₁ B hml hv
  obtain ⟨rfl, hsz, hP, hK⟩ := hv
  have hx := B.exec
  have hb := B.bytes
  have hr := B.returns
  have hts : ∀ w ∈ wsG, w.before _ s = true := hG_of (atoms_spec (ws := (Cond.code yX10_dropsOldest cX10_dropsOldest 2 none :: wsG)) B.pre)
  have hown : s.vm.findClass RX10 = some m.cls := findClass_of_methodNamed B.named
  have hlocks := B.notSynchronized
  subst hsz
  have hS : va_S (fA h0 6325 s.heap.size) s.heap s.heap [] := va_S.rf
  have hl := lv_entry ([.ref h0]) (n := 2) (Nat.le_of_ble_eq_true rfl)
  rw [lg_entry_eq]
  generalize (lg_sl ([.ref h0]) ++ List.replicate (2 - (lg_sl ([.ref h0])).length) Slot.unset).toArray = ls at hl ⊢
  have hl : lv_has ls 2 [(0, .ref h0)] := hl
  refine lv_iconst (v := iZ 1) hx hb dX10_dropsOldest_0 rfl ?_
  refine lv_istore_n (lv' := [(1, .int (iZ (1))), (0, .ref h0)]) hx hb dX10_dropsOldest_1 rfl hl (by decide) rfl (fun ls hl => ?_)
  refine LX10_dropsOldest_2 hx hb hml hown hts hK (Nat.le_of_ble_eq_true rfl) (Nat.le_of_ble_eq_true rfl) (Nat.le_of_ble_eq_true rfl) (Nat.le_of_ble_eq_true rfl) (μ) (J)  ?_ _ (1) μ s.heap [] ls (by omega) (by exact fr_rfl) (by exact hb2) (by exact ht) (by exact h23) (Nat.lt_succ_self _) hP hS (lv_sub hl [0, 1] rfl)
  · intro k_3 μ3_ H locs ls q1_3 q2_3 hP hS hl
    have hl : lv_has ls 2 [(0, .ref h0)] := hl
    refine lv_aload_n hx hb dX10_dropsOldest_50 rfl (lv_at hl 0 rfl) ?_
    refine lv_dup hx hb dX10_dropsOldest_51 rfl ?_
    refine fz_get (D := (dC, dI)) (ci := 10) (v := .int (iZ (μ3_ 0 23))) (C := RX10) (T := TX10) (N := 53) hx hb hts inG10 hown hK hP (k := 0) (by decide) (F := mF h0) mE_obj rfl 23 (by decide) (hts _ k1189) (fun _ h9 => h9) rfl dX10_dropsOldest_52 ?_
    refine lv_iconst (v := iZ 1) hx hb dX10_dropsOldest_55 rfl ?_
    refine lv_isub hx hb dX10_dropsOldest_56 ?_
    refine lv_topi (fun x9 ex9 => ?_)
    obtain rfl : x9 = iZ ((μ3_ 0 23) - 1) := ex9.trans (iZ_sub _ _)
    refine fz_put (D := (dC, dI)) (ci := 10) (ty := .int) (z := ((μ3_ 0 23) - 1)) (C := RX10) (T := TX10) (N := 53) hx hb hts inG10 tyX10 tyX10_ok nmX10 hown hK hP fA_in hS (k := 0) (by decide) (F := mF h0) mE_obj rfl 23 (by decide) (hts _ k1189) (fun _ h9 => h9) rfl (by decide +kernel) rfl rfl (fun _ => Nat.le_of_ble_eq_true rfl) (fun _ _ => rfl) dX10_dropsOldest_57 (fun H locs hP hS => ?_)
    obtain ⟨μ4, eμ4⟩ : ∃ x : va_M, x = uz μ3_ 0 23 ((μ3_ 0 23) - 1) := ⟨_, rfl⟩
    rw [← eμ4] at hP
    exact W.vret hx hb hr (fun t9 ht9 hW9 => ⟨⟨μ4, rfl, (by
                try dsimp only
                obtain ⟨c1, c2, c3⟩ := q2_3
                subst eμ4
                refine ⟨fr_uz q1_3 (by unfold BF; omega), fun j hj => by rw [uz_n (by omega)]; exact c1 j hj, fun j h1 h2 => ?_, by rw [uz_s]; omega⟩
                obtain ⟨v, v1, v2, v3⟩ := c2 j h1 (by omega)
                exact ⟨v, v1, v2, TR_fr (P := fun x y => x = 0 ∧ y = 23) v3 (fr_uz fr_rfl ⟨rfl, rfl⟩) (fun x => by omega) (by omega)⟩), by rw [ht9]; exact hP, va_K.moved hW9.alike hK⟩, hS.F ht9⟩) hS.2.2 dX10_dropsOldest_60
set_option maxHeartbeats 4000000 in
set_option maxRecDepth 100000 in
theorem m_remembers (l : Launch) (dC : Nat → ClassId) (dI : Nat → Nat → Nat) (cI cZ cII cIII : ClassId) (h0 sz : Nat) (μ : va_M) (cost : Int) (J : Rw → Prop) (w : Rw) (hbk : bkR J μ) (hT : TR μ 0 w) (hB : skB w) (hJ : J w) : Met l yX10_remembers (Cond.code yX10_remembers cX10_remembers 2 none :: wsG) ({ frames := 5, cells := 0, slots := 0, locals := 107 } : Room) (va_Pc [.ref h0, .int (iZ (cost))] (fun U => U.heap.size = sz ∧ va_P (dC, dI) vwCl (fw (mE cI cZ cII cIII h0) h0 6325 μ) U.heap ∧ va_K (dC, dI) vwCl (mT cI cZ cII cIII) U)) (va_Qv (fun (u : va_M) => fr BF μ u ∧ bkR J u) (fun u t => va_P (dC, dI) vwCl (fw (mE cI cZ cII cIII h0) h0 6325 u) t.heap ∧ va_K (dC, dI) vwCl (mT cI cZ cII cIII) t) (fA h0 6325 sz)) 0 0 (fA h0 6325 sz) := by
  refine Met.ofW (cc := cX10_remembers) (maxL := 2) (ret := none) (by decide) rfl ?_
  intro p e s m args below meth c s₁ B hml hv
  obtain ⟨rfl, hsz, hP, hK⟩ := hv
  have hx := B.exec
  have hb := B.bytes
  have hr := B.returns
  have hts : ∀ w ∈ wsG, w.before _ s = true := hG_of (atoms_spec (ws := (Cond.code yX10_remembers cX10_remembers 2 none :: wsG)) B.pre)
  have hown : s.vm.findClass RX10 = some m.cls := findClass_of_methodNamed B.named
  have hlocks := B.notSynchronized
  subst hsz
  have hS : va_S (fA h0 6325 s.heap.size) s.heap s.heap [] := va_S.rf
  have hl := lv_entry ([.ref h0, .int (iZ (cost))]) (n := 2) (Nat.le_of_ble_eq_true rfl)
  rw [lg_entry_eq]
  generalize (lg_sl ([.ref h0, .int (iZ (cost))]) ++ List.replicate (2 - (lg_sl ([.ref h0, .int (iZ (cost))])).length) Slot.unset).toArray = ls at hl ⊢
  have hl : lv_has ls 2 [(0, .ref h0), (1, .int (iZ (cost)))] := hl
  refine lv_aload_n hx hb dX10_remembers_0 rfl (lv_at hl 0 rfl) ?_
  refine fz_get (D := (dC, dI)) (ci := 10) (v := .int (iZ (μ 0 23))) (C := RX10) (T := TX10) (N := 53) hx hb hts inG10 hown hK hP (k := 0) (by decide) (F := mF h0) mE_obj rfl 23 (by decide) (hts _ k1189) (fun _ h9 => h9) rfl dX10_remembers_1 ?_
  have hb0 := hbk
  obtain ⟨b1, b2, b3, b4⟩ := hb0
  refine lv_bipush (v := iZ 16) hx hb dX10_remembers_4 rfl ?_
  refine fz_icmp_ne (tgt := 13) (by constructor <;> omega) (by decide) hx hb dX10_remembers_6 (by decide) (fun c6_ => ?_) (fun c6_ => ?_)
  · obtain ⟨n9, d2, d3, d4, d5⟩ : ∃ n : Int, fr BF μ μ ∧ (∀ j : Nat, j < 16 → μ 721 j = 0 ∨ μ 721 j = 1) ∧ (bkT J μ n ∧ μ 0 23 = n) ∧ 0 ≤ n ∧ n ≤ 15 := ⟨μ 0 23, fr_rfl, b3, ⟨b4, rfl⟩, by omega⟩
    have m23 : μ 0 23 = n9 := d4.2
    have m22 : μ 0 22 = μ 0 22 := d2 0 22 (by unfold BF; omega)
    have mT : TR μ 0 w := TR_fr hT d2 (fun x => by unfold BF; omega) (by unfold BF; omega)
    refine lv_aload_n hx hb dX10_remembers_13 rfl (lv_at hl 0 rfl) ?_
    refine lv_dup hx hb dX10_remembers_14 rfl ?_
    refine fz_get (D := (dC, dI)) (ci := 10) (v := .int (iZ (μ 0 23))) (C := RX10) (T := TX10) (N := 53) hx hb hts inG10 hown hK hP (k := 0) (by decide) (F := mF h0) mE_obj rfl 23 (by decide) (hts _ k1189) (fun _ h9 => h9) rfl dX10_remembers_15 ?_
    rw [show μ 0 23 = n9 from (by exact m23)]
    refine lv_iconst (v := iZ 1) hx hb dX10_remembers_18 rfl ?_
    refine lv_iadd hx hb dX10_remembers_19 ?_
    refine lv_topi (fun x9 ex9 => ?_)
    obtain rfl : x9 = iZ (n9 + 1) := ex9.trans (iZ_add _ _)
    refine fz_put (D := (dC, dI)) (ci := 10) (ty := .int) (z := (n9 + 1)) (C := RX10) (T := TX10) (N := 53) hx hb hts inG10 tyX10 tyX10_ok nmX10 hown hK hP fA_in hS (k := 0) (by decide) (F := mF h0) mE_obj rfl 23 (by decide) (hts _ k1189) (fun _ h9 => h9) rfl (by decide +kernel) rfl rfl (fun _ => Nat.le_of_ble_eq_true rfl) (fun _ _ => rfl) dX10_remembers_20 (fun H locs hP hS => ?_)
    obtain ⟨μ1, eμ1⟩ : ∃ x : va_M, x = uz μ 0 23 (n9 + 1) := ⟨_, rfl⟩
    rw [← eμ1] at hP
    refine lv_aload_n hx hb dX10_remembers_23 rfl (lv_at hl 0 rfl) ?_
    refine lv_iconst (v := iZ 0) hx hb dX10_remembers_24 rfl ?_
    refine lv_aload_n hx hb dX10_remembers_25 rfl (lv_at hl 0 rfl) ?_
    refine fz_get (D := (dC, dI)) (ci := 10) (v := .int (iZ (μ1 0 23))) (C := RX10) (T := TX10) (N := 53) hx hb hts inG10 hown hK hP (k := 0) (by decide) (F := mF h0) mE_obj rfl 23 (by decide) (hts _ k1189) (fun _ h9 => h9) rfl dX10_remembers_26 ?_
    rw [show μ1 0 23 = n9 + 1 from by rw [eμ1, uz_s]]
    refine va_callv (va_runV (As := [.int (iZ (0)), .int (iZ (n9 + 1))]) (rest := []) ⟨hx, hb, hml, hown, hts⟩ (m_copiesAll l dC dI cI cZ cII cIII h0 H.size μ1 (0) (n9 + 1) (w) (by first | assumption | omega | exact ⟨by omega, by omega⟩) (by omega) (by omega) (by exact TR_fr (P := fun x y => x = 0 ∧ y = 23) mT (by rw [eμ1]; exact fr_uz fr_rfl ⟨rfl, rfl⟩) (fun x => by omega) (by omega)) (by exact hB.2.1)) (cwV 2 hts (gV_G k1428 k1430 ks_yX10_copiesAll k13 k1431) rfl rfl rfl (by decide +kernel) ⟨Nat.le_of_ble_eq_true rfl, Nat.le_of_ble_eq_true rfl⟩) ⟨fun a U g mk q => by obtain ⟨q0, q1, qP, qK⟩ := q; exact ⟨q0, q1, qP, va_K.moved (u := U) (U := U.calling g mk a) (Vm.Alike.refl U.vm) qK⟩, va_recv hK hP (ci := 10) (q0 := 0) rfl ((fw_get (by decide)).trans (by rw [mE_obj]; rfl)), fun U hU hW => ⟨rfl, by rw [hU], by rw [hU]; exact hP, va_K.moved hW.alike hK⟩⟩ rfl rfl hl.1 rfl (lv_room (Nat.le_of_ble_eq_true rfl)) dX10_remembers_29 ⟨Nat.le_of_ble_eq_true rfl, Nat.le_of_ble_eq_true rfl⟩) hS (fun q _ h => fA_le hS.1 q h) (fA_le hS.1) (fun u9 t9 H1 locs ht9 hvm9 hw9 hB9 hz9 hk9 hS => ?_)
    obtain ⟨hP, -⟩ := hB9
    rw [ht9] at hP
    generalize H1 = H at hP hS ⊢
    obtain ⟨μc, eμc⟩ : ∃ x : va_M, x = u9 := ⟨_, rfl⟩
    rw [← eμc] at hP hw9
    have hμc := hw9; clear hw9
    obtain ⟨c1, c2⟩ := hμc
    have c23 : μc 0 23 = n9 + 1 := by rw [c2 0 23 (by unfold PT; omega), eμ1, uz_s]
    have c22 : μc 0 22 = μ 0 22 := by rw [c2 0 22 (by unfold PT; omega), eμ1, uz_n (by omega)] <;> exact m22
    refine lv_aload_n hx hb dX10_remembers_32 rfl (lv_at hl 0 rfl) ?_
    refine fz_get (D := (dC, dI)) (ci := 10) (v := .ref (h0 + 720)) (C := RX10) (T := TX10) (N := 53) hx hb hts inG10 hown hK hP (k := 0) (by decide) (F := mF h0) mE_obj rfl 25 (by decide) (hts _ k1191) (fun _ h9 => h9) rfl dX10_remembers_33 ?_
    refine lv_aload_n hx hb dX10_remembers_36 rfl (lv_at hl 0 rfl) ?_
    refine fz_get (D := (dC, dI)) (ci := 10) (v := .int (iZ (μc 0 23))) (C := RX10) (T := TX10) (N := 53) hx hb hts inG10 hown hK hP (k := 0) (by decide) (F := mF h0) mE_obj rfl 23 (by decide) (hts _ k1189) (fun _ h9 => h9) rfl dX10_remembers_37 ?_
    rw [show μc 0 23 = (n9 + 1) from (by exact c23)]
    refine lv_iconst (v := iZ 1) hx hb dX10_remembers_40 rfl ?_
    refine lv_isub hx hb dX10_remembers_41 ?_
    refine lv_topi (fun x9 ex9 => ?_)
    obtain rfl : x9 = iZ (((n9 + 1)) - 1) := ex9.trans (iZ_sub _ _)
    refine lv_iload_n hx hb dX10_remembers_42 rfl (lv_at hl 1 rfl) ?_
    refine fz_st (k := 720) (n := 16) (i := (((n9 + 1)) - 1)) (z := cost) hx hb hK hP fA_in hS 0 (by decide) mE_backCost rfl ⟨by omega, by omega⟩ (by decide) dX10_remembers_43 (fun H locs hP hS => ?_)
    obtain ⟨μ2, eμ2⟩ : ∃ x : va_M, x = uz μc 720 (((n9 + 1)) - 1).toNat (cost) := ⟨_, rfl⟩
    rw [← eμ2] at hP
    refine lv_aload_n hx hb dX10_remembers_44 rfl (lv_at hl 0 rfl) ?_
    refine fz_get (D := (dC, dI)) (ci := 10) (v := .ref (h0 + 721)) (C := RX10) (T := TX10) (N := 53) hx hb hts inG10 hown hK hP (k := 0) (by decide) (F := mF h0) mE_obj rfl 26 (by decide) (hts _ k1192) (fun _ h9 => h9) rfl dX10_remembers_45 ?_
    refine lv_aload_n hx hb dX10_remembers_48 rfl (lv_at hl 0 rfl) ?_
    refine fz_get (D := (dC, dI)) (ci := 10) (v := .int (iZ (μ2 0 23))) (C := RX10) (T := TX10) (N := 53) hx hb hts inG10 hown hK hP (k := 0) (by decide) (F := mF h0) mE_obj rfl 23 (by decide) (hts _ k1189) (fun _ h9 => h9) rfl dX10_remembers_49 ?_
    rw [show μ2 0 23 = μc 0 23 from by rw [eμ2, uz_n (by omega)]]
    rw [show μc 0 23 = (n9 + 1) from (by exact c23)]
    refine lv_iconst (v := iZ 1) hx hb dX10_remembers_52 rfl ?_
    refine lv_isub hx hb dX10_remembers_53 ?_
    refine lv_topi (fun x9 ex9 => ?_)
    obtain rfl : x9 = iZ (((n9 + 1)) - 1) := ex9.trans (iZ_sub _ _)
    refine lv_aload_n hx hb dX10_remembers_54 rfl (lv_at hl 0 rfl) ?_
    refine fz_get (D := (dC, dI)) (ci := 10) (v := .int (iZ (μ2 0 22))) (C := RX10) (T := TX10) (N := 53) hx hb hts inG10 hown hK hP (k := 0) (by decide) (F := mF h0) mE_obj rfl 22 (by decide) (hts _ k1188) (fun _ h9 => h9) rfl dX10_remembers_55 ?_
    rw [show μ2 0 22 = μc 0 22 from by rw [eμ2, uz_n (by omega)]]
    rw [show μc 0 22 = μ 0 22 from (by exact c22)]
    refine fz_zst (k := 721) (n := 16) (i := (((n9 + 1)) - 1)) (z := (μ 0 22)) hx hb hK hP fA_in hS 1 (by decide) mE_backHad rfl ⟨by omega, by omega⟩ (by decide) (by omega) dX10_remembers_58 (fun H locs hP hS => ?_)
    obtain ⟨μ3, eμ3⟩ : ∃ x : va_M, x = uz μ2 721 (((n9 + 1)) - 1).toNat (μ 0 22) := ⟨_, rfl⟩
    rw [← eμ3] at hP
    exact W.vret hx hb hr (fun t9 ht9 hW9 => ⟨⟨μ3, rfl, (by
                try dsimp only
                have fc : fr BF μ μc := fr_trans d2 (fr_trans (by rw [eμ1]; exact fr_uz fr_rfl (by unfold BF; omega)) (fr_mono c2 (fun x y h => by unfold PT at h; unfold BF; omega)))
                have fu : fr BF μ μ3 := by rw [eμ3, eμ2]; exact fr_uz (fr_uz fc (by unfold BF; omega)) (by unfold BF; omega)
                refine ⟨fu, ?_, ?_, fun j hj => ?_, fun j h1 h2 => ?_⟩
                · rw [eμ3, eμ2, uz_n (by omega), uz_n (by omega)]; omega
                · rw [eμ3, eμ2, uz_n (by omega), uz_n (by omega)]; omega
                · rw [eμ3, eμ2]
                  by_cases h9 : j = (n9 + 1 - 1).toNat
                  · subst h9; rw [uz_s]; omega
                  · rw [uz_n (by omega), uz_n (by omega), c2 721 j (by unfold PT; omega), eμ1, uz_n (by omega)]; exact d3 j hj
                · have fz : fr (fun x _ => x = 720 ∨ x = 721) μc μ3 := by rw [eμ3, eμ2]; exact fr_uz (fr_uz fr_rfl (Or.inl rfl)) (Or.inr rfl)
                  rw [eμ3, eμ2, uz_n (by omega), uz_n (by omega), c23] at h2
                  by_cases h9 : j = (n9 + 1).toNat
                  · subst h9; exact ⟨w, hJ, hB, TR_fr c1 fz (fun x => by omega) (by omega)⟩
                  · obtain ⟨v, v1, v2, v3⟩ := d4.1 j h1 (by omega)
                    refine ⟨v, v1, v2, TR_fr (TR_fr (TR_fr (P := fun x y => x = 0 ∧ y = 23) v3 (by rw [eμ1]; exact fr_uz fr_rfl ⟨rfl, rfl⟩) (fun x => by omega) (by omega)) c2 (fun x => by unfold PT; omega) (by unfold PT; omega)) fz (fun x => by omega) (by omega)⟩), by rw [ht9]; exact hP, va_K.moved hW9.alike hK⟩, hS.F ht9⟩) hS.2.2 dX10_remembers_59
  · refine lv_aload_n hx hb dX10_remembers_9 rfl (lv_at hl 0 rfl) ?_
    refine va_callv (va_runV (As := []) (rest := []) ⟨hx, hb, hml, hown, hts⟩ (m_dropsOldest l dC dI cI cZ cII cIII h0 s.heap.size μ (J) (by exact b3) (by rw [show (16 : Int) = μ 0 23 by omega]; exact b4) (by omega)) (cwV 0 hts (gV_G k1480 k1482 ks_yX10_dropsOldest k13 k1483) rfl rfl rfl (by decide +kernel) ⟨Nat.le_of_ble_eq_true rfl, Nat.le_of_ble_eq_true rfl⟩) ⟨fun a U g mk q => by obtain ⟨q0, q1, qP, qK⟩ := q; exact ⟨q0, q1, qP, va_K.moved (u := U) (U := U.calling g mk a) (Vm.Alike.refl U.vm) qK⟩, va_recv hK hP (ci := 10) (q0 := 0) rfl ((fw_get (by decide)).trans (by rw [mE_obj]; rfl)), fun U hU hW => ⟨rfl, by rw [hU], by rw [hU]; exact hP, va_K.moved hW.alike hK⟩⟩ rfl rfl hl.1 rfl (lv_room (Nat.le_of_ble_eq_true rfl)) dX10_remembers_10 ⟨Nat.le_of_ble_eq_true rfl, Nat.le_of_ble_eq_true rfl⟩) hS (fun q _ h => fA_le hS.1 q h) (fA_le hS.1) (fun u9 t9 H1 locs ht9 hvm9 hw9 hB9 hz9 hk9 hS => ?_)
    obtain ⟨hP, -⟩ := hB9
    rw [ht9] at hP
    generalize H1 = H at hP hS ⊢
    obtain ⟨μa, eμa⟩ : ∃ x : va_M, x = u9 := ⟨_, rfl⟩
    rw [← eμa] at hP hw9
    have hμa := hw9; clear hw9
    obtain ⟨e1, e2, e3, e4⟩ := hμa
    obtain ⟨n9, d2, d3, d4, d5⟩ : ∃ n : Int, fr BF μ μa ∧ (∀ j : Nat, j < 16 → μa 721 j = 0 ∨ μa 721 j = 1) ∧ (bkT J μa n ∧ μa 0 23 = n) ∧ 0 ≤ n ∧ n ≤ 15 := ⟨15, e1, e2, ⟨e3, e4⟩, by omega⟩
    have m23 : μa 0 23 = n9 := d4.2
    have m22 : μa 0 22 = μ 0 22 := d2 0 22 (by unfold BF; omega)
    have mT : TR μa 0 w := TR_fr hT d2 (fun x => by unfold BF; omega) (by unfold BF; omega)
    refine lv_aload_n hx hb dX10_remembers_13 rfl (lv_at hl 0 rfl) ?_
    refine lv_dup hx hb dX10_remembers_14 rfl ?_
    refine fz_get (D := (dC, dI)) (ci := 10) (v := .int (iZ (μa 0 23))) (C := RX10) (T := TX10) (N := 53) hx hb hts inG10 hown hK hP (k := 0) (by decide) (F := mF h0) mE_obj rfl 23 (by decide) (hts _ k1189) (fun _ h9 => h9) rfl dX10_remembers_15 ?_
    rw [show μa 0 23 = n9 from (by exact m23)]
    refine lv_iconst (v := iZ 1) hx hb dX10_remembers_18 rfl ?_
    refine lv_iadd hx hb dX10_remembers_19 ?_
    refine lv_topi (fun x9 ex9 => ?_)
    obtain rfl : x9 = iZ (n9 + 1) := ex9.trans (iZ_add _ _)
    refine fz_put (D := (dC, dI)) (ci := 10) (ty := .int) (z := (n9 + 1)) (C := RX10) (T := TX10) (N := 53) hx hb hts inG10 tyX10 tyX10_ok nmX10 hown hK hP fA_in hS (k := 0) (by decide) (F := mF h0) mE_obj rfl 23 (by decide) (hts _ k1189) (fun _ h9 => h9) rfl (by decide +kernel) rfl rfl (fun _ => Nat.le_of_ble_eq_true rfl) (fun _ _ => rfl) dX10_remembers_20 (fun H locs hP hS => ?_)
    obtain ⟨μ4, eμ4⟩ : ∃ x : va_M, x = uz μa 0 23 (n9 + 1) := ⟨_, rfl⟩
    rw [← eμ4] at hP
    refine lv_aload_n hx hb dX10_remembers_23 rfl (lv_at hl 0 rfl) ?_
    refine lv_iconst (v := iZ 0) hx hb dX10_remembers_24 rfl ?_
    refine lv_aload_n hx hb dX10_remembers_25 rfl (lv_at hl 0 rfl) ?_
    refine fz_get (D := (dC, dI)) (ci := 10) (v := .int (iZ (μ4 0 23))) (C := RX10) (T := TX10) (N := 53) hx hb hts inG10 hown hK hP (k := 0) (by decide) (F := mF h0) mE_obj rfl 23 (by decide) (hts _ k1189) (fun _ h9 => h9) rfl dX10_remembers_26 ?_
    rw [show μ4 0 23 = n9 + 1 from by rw [eμ4, uz_s]]
    refine va_callv (va_runV (As := [.int (iZ (0)), .int (iZ (n9 + 1))]) (rest := []) ⟨hx, hb, hml, hown, hts⟩ (m_copiesAll l dC dI cI cZ cII cIII h0 H.size μ4 (0) (n9 + 1) (w) (by first | assumption | omega | exact ⟨by omega, by omega⟩) (by omega) (by omega) (by exact TR_fr (P := fun x y => x = 0 ∧ y = 23) mT (by rw [eμ4]; exact fr_uz fr_rfl ⟨rfl, rfl⟩) (fun x => by omega) (by omega)) (by exact hB.2.1)) (cwV 2 hts (gV_G k1428 k1430 ks_yX10_copiesAll k13 k1431) rfl rfl rfl (by decide +kernel) ⟨Nat.le_of_ble_eq_true rfl, Nat.le_of_ble_eq_true rfl⟩) ⟨fun a U g mk q => by obtain ⟨q0, q1, qP, qK⟩ := q; exact ⟨q0, q1, qP, va_K.moved (u := U) (U := U.calling g mk a) (Vm.Alike.refl U.vm) qK⟩, va_recv hK hP (ci := 10) (q0 := 0) rfl ((fw_get (by decide)).trans (by rw [mE_obj]; rfl)), fun U hU hW => ⟨rfl, by rw [hU], by rw [hU]; exact hP, va_K.moved hW.alike hK⟩⟩ rfl rfl hl.1 rfl (lv_room (Nat.le_of_ble_eq_true rfl)) dX10_remembers_29 ⟨Nat.le_of_ble_eq_true rfl, Nat.le_of_ble_eq_true rfl⟩) hS (fun q _ h => fA_le hS.1 q h) (fA_le hS.1) (fun u9 t9 H1 locs ht9 hvm9 hw9 hB9 hz9 hk9 hS => ?_)
    obtain ⟨hP, -⟩ := hB9
    rw [ht9] at hP
    generalize H1 = H at hP hS ⊢
    obtain ⟨μc, eμc⟩ : ∃ x : va_M, x = u9 := ⟨_, rfl⟩
    rw [← eμc] at hP hw9
    have hμc := hw9; clear hw9
    obtain ⟨c1, c2⟩ := hμc
    have c23 : μc 0 23 = n9 + 1 := by rw [c2 0 23 (by unfold PT; omega), eμ4, uz_s]
    have c22 : μc 0 22 = μ 0 22 := by rw [c2 0 22 (by unfold PT; omega), eμ4, uz_n (by omega)] <;> exact m22
    refine lv_aload_n hx hb dX10_remembers_32 rfl (lv_at hl 0 rfl) ?_
    refine fz_get (D := (dC, dI)) (ci := 10) (v := .ref (h0 + 720)) (C := RX10) (T := TX10) (N := 53) hx hb hts inG10 hown hK hP (k := 0) (by decide) (F := mF h0) mE_obj rfl 25 (by decide) (hts _ k1191) (fun _ h9 => h9) rfl dX10_remembers_33 ?_
    refine lv_aload_n hx hb dX10_remembers_36 rfl (lv_at hl 0 rfl) ?_
    refine fz_get (D := (dC, dI)) (ci := 10) (v := .int (iZ (μc 0 23))) (C := RX10) (T := TX10) (N := 53) hx hb hts inG10 hown hK hP (k := 0) (by decide) (F := mF h0) mE_obj rfl 23 (by decide) (hts _ k1189) (fun _ h9 => h9) rfl dX10_remembers_37 ?_
    rw [show μc 0 23 = (n9 + 1) from (by exact c23)]
    refine lv_iconst (v := iZ 1) hx hb dX10_remembers_40 rfl ?_
    refine lv_isub hx hb dX10_remembers_41 ?_
    refine lv_topi (fun x9 ex9 => ?_)
    obtain rfl : x9 = iZ (((n9 + 1)) - 1) := ex9.trans (iZ_sub _ _)
    refine lv_iload_n hx hb dX10_remembers_42 rfl (lv_at hl 1 rfl) ?_
    refine fz_st (k := 720) (n := 16) (i := (((n9 + 1)) - 1)) (z := cost) hx hb hK hP fA_in hS 0 (by decide) mE_backCost rfl ⟨by omega, by omega⟩ (by decide) dX10_remembers_43 (fun H locs hP hS => ?_)
    obtain ⟨μ5, eμ5⟩ : ∃ x : va_M, x = uz μc 720 (((n9 + 1)) - 1).toNat (cost) := ⟨_, rfl⟩
    rw [← eμ5] at hP
    refine lv_aload_n hx hb dX10_remembers_44 rfl (lv_at hl 0 rfl) ?_
    refine fz_get (D := (dC, dI)) (ci := 10) (v := .ref (h0 + 721)) (C := RX10) (T := TX10) (N := 53) hx hb hts inG10 hown hK hP (k := 0) (by decide) (F := mF h0) mE_obj rfl 26 (by decide) (hts _ k1192) (fun _ h9 => h9) rfl dX10_remembers_45 ?_
    refine lv_aload_n hx hb dX10_remembers_48 rfl (lv_at hl 0 rfl) ?_
    refine fz_get (D := (dC, dI)) (ci := 10) (v := .int (iZ (μ5 0 23))) (C := RX10) (T := TX10) (N := 53) hx hb hts inG10 hown hK hP (k := 0) (by decide) (F := mF h0) mE_obj rfl 23 (by decide) (hts _ k1189) (fun _ h9 => h9) rfl dX10_remembers_49 ?_
    rw [show μ5 0 23 = μc 0 23 from by rw [eμ5, uz_n (by omega)]]
    rw [show μc 0 23 = (n9 + 1) from (by exact c23)]
    refine lv_iconst (v := iZ 1) hx hb dX10_remembers_52 rfl ?_
    refine lv_isub hx hb dX10_remembers_53 ?_
    refine lv_topi (fun x9 ex9 => ?_)
    obtain rfl : x9 = iZ (((n9 + 1)) - 1) := ex9.trans (iZ_sub _ _)
    refine lv_aload_n hx hb dX10_remembers_54 rfl (lv_at hl 0 rfl) ?_
    refine fz_get (D := (dC, dI)) (ci := 10) (v := .int (iZ (μ5 0 22))) (C := RX10) (T := TX10) (N := 53) hx hb hts inG10 hown hK hP (k := 0) (by decide) (F := mF h0) mE_obj rfl 22 (by decide) (hts _ k1188) (fun _ h9 => h9) rfl dX10_remembers_55 ?_
    rw [show μ5 0 22 = μc 0 22 from by rw [eμ5, uz_n (by omega)]]
    rw [show μc 0 22 = μ 0 22 from (by exact c22)]
    refine fz_zst (k := 721) (n := 16) (i := (((n9 + 1)) - 1)) (z := (μ 0 22)) hx hb hK hP fA_in hS 1 (by decide) mE_backHad rfl ⟨by omega, by omega⟩ (by decide) (by omega) dX10_remembers_58 (fun H locs hP hS => ?_)
    obtain ⟨μ6, eμ6⟩ : ∃ x : va_M, x = uz μ5 721 (((n9 + 1)) - 1).toNat (μ 0 22) := ⟨_, rfl⟩
    rw [← eμ6] at hP
    exact W.vret hx hb hr (fun t9 ht9 hW9 => ⟨⟨μ6, rfl, (by
                try dsimp only
                have fc : fr BF μ μc := fr_trans d2 (fr_trans (by rw [eμ4]; exact fr_uz fr_rfl (by unfold BF; omega)) (fr_mono c2 (fun x y h => by unfold PT at h; unfold BF; omega)))
                have fu : fr BF μ μ6 := by rw [eμ6, eμ5]; exact fr_uz (fr_uz fc (by unfold BF; omega)) (by unfold BF; omega)
                refine ⟨fu, ?_, ?_, fun j hj => ?_, fun j h1 h2 => ?_⟩
                · rw [eμ6, eμ5, uz_n (by omega), uz_n (by omega)]; omega
                · rw [eμ6, eμ5, uz_n (by omega), uz_n (by omega)]; omega
                · rw [eμ6, eμ5]
                  by_cases h9 : j = (n9 + 1 - 1).toNat
                  · subst h9; rw [uz_s]; omega
                  · rw [uz_n (by omega), uz_n (by omega), c2 721 j (by unfold PT; omega), eμ4, uz_n (by omega)]; exact d3 j hj
                · have fz : fr (fun x _ => x = 720 ∨ x = 721) μc μ6 := by rw [eμ6, eμ5]; exact fr_uz (fr_uz fr_rfl (Or.inl rfl)) (Or.inr rfl)
                  rw [eμ6, eμ5, uz_n (by omega), uz_n (by omega), c23] at h2
                  by_cases h9 : j = (n9 + 1).toNat
                  · subst h9; exact ⟨w, hJ, hB, TR_fr c1 fz (fun x => by omega) (by omega)⟩
                  · obtain ⟨v, v1, v2, v3⟩ := d4.1 j h1 (by omega)
                    refine ⟨v, v1, v2, TR_fr (TR_fr (TR_fr (P := fun x y => x = 0 ∧ y = 23) v3 (by rw [eμ4]; exact fr_uz fr_rfl ⟨rfl, rfl⟩) (fun x => by omega) (by omega)) c2 (fun x => by unfold PT; omega) (by unfold PT; omega)) fz (fun x => by omega) (by omega)⟩), by rw [ht9]; exact hP, va_K.moved hW9.alike hK⟩, hS.F ht9⟩) hS.2.2 dX10_remembers_59

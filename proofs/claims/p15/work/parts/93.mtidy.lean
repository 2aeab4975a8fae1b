theorem k1440 : (Cond.methodLink "PageSkeletonModel" (304 : Nat) ({ cls := "PageSkeletonModel", name := "tidiesAll", desc := "()I" } : MethodName)) ∈ wsG := wsG_at 1440 (by decide +kernel) (by decide +kernel)
theorem k1442 : (Cond.instanceMethod ({ cls := "PageSkeletonModel", name := "tidiesAll", desc := "()I" } : MethodName)) ∈ wsG := wsG_at 1442 (by decide +kernel) (by decide +kernel)
theorem k1443 : (Cond.code ({ cls := "PageSkeletonModel", name := "tidiesAll", desc := "()I" } : MethodName) prog_12_method_48_code (1 : Nat) (Option.some FieldType.int)) ∈ wsG := wsG_at 1443 (by decide +kernel) (by decide +kernel)
theorem k1496 : (Cond.methodLink "PageSkeletonModel" (316 : Nat) ({ cls := "PageSkeletonModel", name := "fitMany", desc := "()I" } : MethodName)) ∈ wsG := wsG_at 1496 (by decide +kernel) (by decide +kernel)
theorem k1498 : (Cond.instanceMethod ({ cls := "PageSkeletonModel", name := "fitMany", desc := "()I" } : MethodName)) ∈ wsG := wsG_at 1498 (by decide +kernel) (by decide +kernel)
theorem k1499 : (Cond.code ({ cls := "PageSkeletonModel", name := "fitMany", desc := "()I" } : MethodName) prog_12_method_50_code (3 : Nat) (Option.some FieldType.int)) ∈ wsG := wsG_at 1499 (by decide +kernel) (by decide +kernel)
theorem ks_yX10_tidiesAll : Cond.selects RX10 yX10_tidiesAll yX10_tidiesAll ∈ wsG := wsG_mem (by decide +kernel) (by decide +kernel)
theorem ks_yX10_fitMany : Cond.selects RX10 yX10_fitMany yX10_fitMany ∈ wsG := wsG_mem (by decide +kernel) (by decide +kernel)
theorem dX10_tidied_0 : decode cX10_tidied 0 = .ok (.aload_n 0, 1) := by decide +kernel
theorem dX10_tidied_1 : decode cX10_tidied 1 = .ok (.iconst 0, 1) := by decide +kernel
theorem dX10_tidied_2 : decode cX10_tidied 2 = .ok (.putfield 127, 3) := by decide +kernel
theorem dX10_tidied_5 : decode cX10_tidied 5 = .ok (.aload_n 0, 1) := by decide +kernel
theorem dX10_tidied_6 : decode cX10_tidied 6 = .ok (.iload_n 1, 1) := by decide +kernel
theorem dX10_tidied_7 : decode cX10_tidied 7 = .ok (.iconst 0, 1) := by decide +kernel
theorem dX10_tidied_8 : decode cX10_tidied 8 = .ok (.iconst 3, 1) := by decide +kernel
theorem dX10_tidied_9 : decode cX10_tidied 9 = .ok (.invokestatic 173, 3) := by decide +kernel
theorem dX10_tidied_12 : decode cX10_tidied 12 = .ok (.ifCond .ne 7, 3) := by decide +kernel
theorem dX10_tidied_15 : decode cX10_tidied 15 = .ok (.iconst 1, 1) := by decide +kernel
theorem dX10_tidied_16 : decode cX10_tidied 16 = .ok (.goto 4, 3) := by decide +kernel
theorem dX10_tidied_19 : decode cX10_tidied 19 = .ok (.iconst 0, 1) := by decide +kernel
theorem dX10_tidied_20 : decode cX10_tidied 20 = .ok (.iconst 1, 1) := by decide +kernel
theorem dX10_tidied_21 : decode cX10_tidied 21 = .ok (.iconst 1, 1) := by decide +kernel
theorem dX10_tidied_22 : decode cX10_tidied 22 = .ok (.invokevirtual 177, 3) := by decide +kernel
theorem dX10_tidied_25 : decode cX10_tidied 25 = .ok (.ifCond .eq 5, 3) := by decide +kernel
theorem dX10_tidied_28 : decode cX10_tidied 28 = .ok (.iconst 0, 1) := by decide +kernel
theorem dX10_tidied_29 : decode cX10_tidied 29 = .ok (.ireturn, 1) := by decide +kernel
theorem dX10_tidied_30 : decode cX10_tidied 30 = .ok (.aload_n 0, 1) := by decide +kernel
theorem dX10_tidied_31 : decode cX10_tidied 31 = .ok (.invokevirtual 304, 3) := by decide +kernel
theorem dX10_tidied_34 : decode cX10_tidied 34 = .ok (.istore_n 2, 1) := by decide +kernel
theorem dX10_tidied_35 : decode cX10_tidied 35 = .ok (.iload_n 1, 1) := by decide +kernel
theorem dX10_tidied_36 : decode cX10_tidied 36 = .ok (.iconst 3, 1) := by decide +kernel
theorem dX10_tidied_37 : decode cX10_tidied 37 = .ok (.if_icmp .ge 33, 3) := by decide +kernel
theorem dX10_tidied_40 : decode cX10_tidied 40 = .ok (.iload_n 1, 1) := by decide +kernel
theorem dX10_tidied_41 : decode cX10_tidied 41 = .ok (.ifCond .ne 7, 3) := by decide +kernel
theorem dX10_tidied_44 : decode cX10_tidied 44 = .ok (.iload_n 2, 1) := by decide +kernel
theorem dX10_tidied_45 : decode cX10_tidied 45 = .ok (.goto 24, 3) := by decide +kernel
theorem dX10_tidied_48 : decode cX10_tidied 48 = .ok (.iload_n 1, 1) := by decide +kernel
theorem dX10_tidied_49 : decode cX10_tidied 49 = .ok (.iconst 1, 1) := by decide +kernel
theorem dX10_tidied_50 : decode cX10_tidied 50 = .ok (.if_icmp .ne 12, 3) := by decide +kernel
theorem dX10_tidied_53 : decode cX10_tidied 53 = .ok (.aload_n 0, 1) := by decide +kernel
theorem dX10_tidied_54 : decode cX10_tidied 54 = .ok (.bipush 54, 2) := by decide +kernel
theorem dX10_tidied_56 : decode cX10_tidied 56 = .ok (.invokevirtual 313, 3) := by decide +kernel
theorem dX10_tidied_59 : decode cX10_tidied 59 = .ok (.goto 10, 3) := by decide +kernel
theorem dX10_tidied_62 : decode cX10_tidied 62 = .ok (.aload_n 0, 1) := by decide +kernel
theorem dX10_tidied_63 : decode cX10_tidied 63 = .ok (.getfield 54, 3) := by decide +kernel
theorem dX10_tidied_66 : decode cX10_tidied 66 = .ok (.bipush 54, 2) := by decide +kernel
theorem dX10_tidied_68 : decode cX10_tidied 68 = .ok (.iaload, 1) := by decide +kernel
theorem dX10_tidied_69 : decode cX10_tidied 69 = .ok (.ireturn, 1) := by decide +kernel
theorem dX10_tidied_70 : decode cX10_tidied 70 = .ok (.aload_n 0, 1) := by decide +kernel
theorem dX10_tidied_71 : decode cX10_tidied 71 = .ok (.iconst 0, 1) := by decide +kernel
theorem dX10_tidied_72 : decode cX10_tidied 72 = .ok (.bipush 50, 2) := by decide +kernel
theorem dX10_tidied_74 : decode cX10_tidied 74 = .ok (.invokevirtual 241, 3) := by decide +kernel
theorem dX10_tidied_77 : decode cX10_tidied 77 = .ok (.aload_n 0, 1) := by decide +kernel
theorem dX10_tidied_78 : decode cX10_tidied 78 = .ok (.bipush 54, 2) := by decide +kernel
theorem dX10_tidied_80 : decode cX10_tidied 80 = .ok (.iconst 0, 1) := by decide +kernel
theorem dX10_tidied_81 : decode cX10_tidied 81 = .ok (.invokevirtual 241, 3) := by decide +kernel
theorem dX10_tidied_84 : decode cX10_tidied 84 = .ok (.aload_n 0, 1) := by decide +kernel
theorem dX10_tidied_85 : decode cX10_tidied 85 = .ok (.invokevirtual 316, 3) := by decide +kernel
theorem dX10_tidied_88 : decode cX10_tidied 88 = .ok (.istore_n 2, 1) := by decide +kernel
theorem dX10_tidied_89 : decode cX10_tidied 89 = .ok (.aload_n 0, 1) := by decide +kernel
theorem dX10_tidied_90 : decode cX10_tidied 90 = .ok (.bipush 50, 2) := by decide +kernel
theorem dX10_tidied_92 : decode cX10_tidied 92 = .ok (.iconst 0, 1) := by decide +kernel
theorem dX10_tidied_93 : decode cX10_tidied 93 = .ok (.invokevirtual 241, 3) := by decide +kernel
theorem dX10_tidied_96 : decode cX10_tidied 96 = .ok (.iload_n 2, 1) := by decide +kernel
theorem dX10_tidied_97 : decode cX10_tidied 97 = .ok (.ireturn, 1) := by decide +kernel
theorem dX10_tidiesAll_0 : decode cX10_tidiesAll 0 = .ok (.aload_n 0, 1) := by decide +kernel
theorem dX10_tidiesAll_1 : decode cX10_tidiesAll 1 = .ok (.iconst 0, 1) := by decide +kernel
theorem dX10_tidiesAll_2 : decode cX10_tidiesAll 2 = .ok (.putfield 287, 3) := by decide +kernel
theorem dX10_tidiesAll_5 : decode cX10_tidiesAll 5 = .ok (.aload_n 0, 1) := by decide +kernel
theorem dX10_tidiesAll_6 : decode cX10_tidiesAll 6 = .ok (.iconst 0, 1) := by decide +kernel
theorem dX10_tidiesAll_7 : decode cX10_tidiesAll 7 = .ok (.iconst 0, 1) := by decide +kernel
theorem dX10_tidiesAll_8 : decode cX10_tidiesAll 8 = .ok (.aload_n 0, 1) := by decide +kernel
theorem dX10_tidiesAll_9 : decode cX10_tidiesAll 9 = .ok (.getfield 54, 3) := by decide +kernel
theorem dX10_tidiesAll_12 : decode cX10_tidiesAll 12 = .ok (.iconst 0, 1) := by decide +kernel
theorem dX10_tidiesAll_13 : decode cX10_tidiesAll 13 = .ok (.iaload, 1) := by decide +kernel
theorem dX10_tidiesAll_14 : decode cX10_tidiesAll 14 = .ok (.iconst 0, 1) := by decide +kernel
theorem dX10_tidiesAll_15 : decode cX10_tidiesAll 15 = .ok (.invokevirtual 280, 3) := by decide +kernel
theorem dX10_tidiesAll_18 : decode cX10_tidiesAll 18 = .ok (.aload_n 0, 1) := by decide +kernel
theorem dX10_tidiesAll_19 : decode cX10_tidiesAll 19 = .ok (.getfield 287, 3) := by decide +kernel
theorem dX10_tidiesAll_22 : decode cX10_tidiesAll 22 = .ok (.ireturn, 1) := by decide +kernel
theorem dX10_tidy_0 : decode cX10_tidy 0 = .ok (.aload_n 0, 1) := by decide +kernel
theorem dX10_tidy_1 : decode cX10_tidy 1 = .ok (.iconst 0, 1) := by decide +kernel
theorem dX10_tidy_2 : decode cX10_tidy 2 = .ok (.putfield 127, 3) := by decide +kernel
theorem dX10_tidy_5 : decode cX10_tidy 5 = .ok (.aload_n 0, 1) := by decide +kernel
theorem dX10_tidy_6 : decode cX10_tidy 6 = .ok (.invokevirtual 304, 3) := by decide +kernel
theorem dX10_tidy_9 : decode cX10_tidy 9 = .ok (.istore_n 1, 1) := by decide +kernel
theorem dX10_tidy_10 : decode cX10_tidy 10 = .ok (.iload_n 1, 1) := by decide +kernel
theorem dX10_tidy_11 : decode cX10_tidy 11 = .ok (.ifCond .ne 5, 3) := by decide +kernel
theorem dX10_tidy_14 : decode cX10_tidy 14 = .ok (.iconst 0, 1) := by decide +kernel
theorem dX10_tidy_15 : decode cX10_tidy 15 = .ok (.ireturn, 1) := by decide +kernel
theorem dX10_tidy_16 : decode cX10_tidy 16 = .ok (.aload_n 0, 1) := by decide +kernel
theorem dX10_tidy_17 : decode cX10_tidy 17 = .ok (.iconst 0, 1) := by decide +kernel
theorem dX10_tidy_18 : decode cX10_tidy 18 = .ok (.invokevirtual 307, 3) := by decide +kernel
theorem dX10_tidy_21 : decode cX10_tidy 21 = .ok (.aload_n 0, 1) := by decide +kernel
theorem dX10_tidy_22 : decode cX10_tidy 22 = .ok (.bipush 54, 2) := by decide +kernel
theorem dX10_tidy_24 : decode cX10_tidy 24 = .ok (.iconst 0, 1) := by decide +kernel
theorem dX10_tidy_25 : decode cX10_tidy 25 = .ok (.invokevirtual 241, 3) := by decide +kernel
theorem dX10_tidy_28 : decode cX10_tidy 28 = .ok (.iload_n 1, 1) := by decide +kernel
theorem dX10_tidy_29 : decode cX10_tidy 29 = .ok (.ireturn, 1) := by decide +kernel
/-! the skeleton tidied -/
def JTD (J : Rw → Prop) : Prop := (∀ w : Rw, J w → OKr w) ∧ ∀ w u : Rw, J w → TDr w u → J u
theorem JS_TDok : JTD JS := ⟨fun _ h => JS_OK h, fun _ _ h h2 => JS_TD h2 h⟩
theorem TC_PS {x y : Nat} (h : TC 0 x y) : PS x y := by
  unfold TC P8 PT at h
  unfold PS
  rcases h with h | h | h | h | h | h | h | h
  · omega
  · omega
  · omega
  · omega
  · rcases h with h | h | h
    · omega
    · omega
    · omega
  · omega
  · omega
  · omega
theorem TC_00 {y : Nat} (h : y ≠ 38) : ¬ TC 0 0 y := by
  unfold TC P8 PT
  intro h9
  rcases h9 with h9 | h9 | h9 | h9 | h9 | h9 | h9 | h9
  · omega
  · omega
  · omega
  · omega
  · rcases h9 with h9 | h9 | h9 <;> omega
  · omega
  · omega
  · omega
theorem TC_t0 (x : Nat) : ¬ TC 0 (507 + 0) x ∧ ¬ TC 0 (578 + 0) x ∧ ¬ TC 0 (649 + 0) x := ⟨TC_0 (by omega) (by omega), fun h => by have := TC_PS h; unfold PS at this; omega, fun h => by have := TC_PS h; unfold PS at this; omega⟩
theorem TC_n0 : ¬ TC 0 719 0 := fun h => by have := TC_PS h; unfold PS at this; omega
set_option maxHeartbeats 40000000 in
set_option maxRecDepth 100000 in
theorem m_tidiesAll (l : Launch) (dC : Nat → ClassId) (dI : Nat → Nat → Nat) (cI cZ cII cIII : ClassId) (h0 sz : Nat) (μ : va_M) (w : Rw) (hT : TR μ 0 w) (hO : OKr w) : Met l yX10_tidiesAll (Cond.code yX10_tidiesAll cX10_tidiesAll 1 (some .int) :: wsG) ({ frames := 48, cells := 0, slots := 0, locals := 1658 } : Room) (va_Pc [.ref h0] (fun U => U.heap.size = sz ∧ va_P (dC, dI) vwCl (fw (mE cI cZ cII cIII h0) h0 6325 μ) U.heap ∧ va_K (dC, dI) vwCl (mT cI cZ cII cIII) U)) (va_Qi (fun (r9 : Int32) (u : va_M × Int) => r9 = iZ u.2 ∧ (fun (u : va_M) (r : Int) => (∃ w2 : Rw, TR u 54 w2 ∧ TDr w w2) ∧ fr (TC 0) μ u ∧ 0 ≤ r ∧ r ≤ 900) u.1 u.2) (fun u t => va_P (dC, dI) vwCl (fw (mE cI cZ cII cIII h0) h0 6325 u.1) t.heap ∧ va_K (dC, dI) vwCl (mT cI cZ cII cIII) t) (fA h0 6325 sz)) 0 0 (fA h0 6325 sz) := by
  refine Met.ofW (cc := cX10_tidiesAll) (maxL := 1) (ret := (some .int)) (by decide) rfl ?_
  intro p e s m args below meth c s₁ B hml hv
  obtain ⟨rfl, hsz, hP, hK⟩ := hv
  have hx := B.exec
  have hb := B.bytes
  have hr := B.returns
  have hts : ∀ w ∈ wsG, w.before _ s = true := hG_of (atoms_spec (ws := (Cond.code yX10_tidiesAll cX10_tidiesAll 1 (some .int) :: wsG)) B.pre)
  have hown : s.vm.findClass RX10 = some m.cls := findClass_of_methodNamed B.named
  have hlocks := B.notSynchronized
  subst hsz
  have hS : va_S (fA h0 6325 s.heap.size) s.heap s.heap [] := va_S.rf
  have hl := lv_entry ([.ref h0]) (n := 1) (Nat.le_of_ble_eq_true rfl)
  rw [lg_entry_eq]
  generalize (lg_sl ([.ref h0]) ++ List.replicate (1 - (lg_sl ([.ref h0])).length) Slot.unset).toArray = ls at hl ⊢
  have hl : lv_has ls 1 [(0, .ref h0)] := hl
  refine lv_aload_n hx hb dX10_tidiesAll_0 rfl (lv_at hl 0 rfl) ?_
  refine lv_iconst (v := iZ 0) hx hb dX10_tidiesAll_1 rfl ?_
  refine fz_put (D := (dC, dI)) (ci := 10) (ty := .int) (z := 0) (C := RX10) (T := TX10) (N := 53) hx hb hts inG10 tyX10 tyX10_ok nmX10 hown hK hP fA_in hS (k := 0) (by decide) (F := mF h0) mE_obj rfl 38 (by decide) (hts _ k1204) (fun _ h9 => h9) rfl (by decide +kernel) rfl rfl (fun _ => Nat.le_of_ble_eq_true rfl) (fun _ _ => rfl) dX10_tidiesAll_2 (fun H locs hP hS => ?_)
  obtain ⟨μ1, eμ1⟩ : ∃ x : va_M, x = uz μ 0 38 (0) := ⟨_, rfl⟩
  rw [← eμ1] at hP
  have hb9 := OKr_b hO
  have hz : fr (fun x y => x = 0 ∧ y = 38) μ μ1 := by rw [eμ1]; exact fr_uz fr_rfl ⟨rfl, rfl⟩
  have h38 : μ1 0 38 = 0 := by rw [eμ1, uz_s]
  refine lv_aload_n hx hb dX10_tidiesAll_5 rfl (lv_at hl 0 rfl) ?_
  refine lv_iconst (v := iZ 0) hx hb dX10_tidiesAll_6 rfl ?_
  refine lv_iconst (v := iZ 0) hx hb dX10_tidiesAll_7 rfl ?_
  refine lv_aload_n hx hb dX10_tidiesAll_8 rfl (lv_at hl 0 rfl) ?_
  refine fz_get (D := (dC, dI)) (ci := 10) (v := .ref (h0 + 719)) (C := RX10) (T := TX10) (N := 53) hx hb hts inG10 hown hK hP (k := 0) (by decide) (F := mF h0) mE_obj rfl 21 (by decide) (hts _ k1187) (fun _ h9 => h9) rfl dX10_tidiesAll_9 ?_
  refine lv_iconst (v := iZ 0) hx hb dX10_tidiesAll_12 rfl ?_
  refine fz_ld (k := 719) (n := 70) hx hb hK hP 0 (by decide) mE_nodes rfl ⟨by omega, by omega⟩ (by decide) dX10_tidiesAll_13 ?_
  rw [show (0 : Int).toNat = 0 from rfl]
  rw [show μ1 719 0 = μ 719 0 from by rw [eμ1, uz_n (by omega)]]
  rw [show μ 719 0 = (rN w : Int) from (by exact hT.1)]
  refine lv_iconst (v := iZ 0) hx hb dX10_tidiesAll_14 rfl ?_
  refine va_callv (va_runV (As := [.int (iZ (0)), .int (iZ (0)), .int (iZ ((rN w : Int))), .int (iZ (0))]) (rest := []) ⟨hx, hb, hml, hown, hts⟩ (m_tidies l dC dI cI cZ cII cIII h0 (17) H.size μ1 (0) ((rN w : Int)) (0) (w) (by omega) (by omega) (by exact RA_fr hT.2 hz (fun x => by omega)) (by exact hO) (by omega)) (cwV 4 hts (gV_G k1444 k1446 ks_yX10_tidies k13 k1447) rfl rfl rfl (by decide +kernel) ⟨Nat.le_of_ble_eq_true rfl, Nat.le_of_ble_eq_true rfl⟩) ⟨fun a U g mk q => by obtain ⟨q0, q1, qP, qK⟩ := q; exact ⟨q0, q1, qP, va_K.moved (u := U) (U := U.calling g mk a) (Vm.Alike.refl U.vm) qK⟩, va_recv hK hP (ci := 10) (q0 := 0) rfl ((fw_get (by decide)).trans (by rw [mE_obj]; rfl)), fun U hU hW => ⟨rfl, by rw [hU], by rw [hU]; exact hP, va_K.moved hW.alike hK⟩⟩ rfl rfl hl.1 rfl (lv_room (Nat.le_of_ble_eq_true rfl)) dX10_tidiesAll_15 ⟨Nat.le_of_ble_eq_true rfl, Nat.le_of_ble_eq_true rfl⟩) hS (fun q _ h => fA_le hS.1 q h) (fA_le hS.1) (fun u9 t9 H1 locs ht9 hvm9 hw9 hB9 hz9 hk9 hS => ?_)
  obtain ⟨hP, -⟩ := hB9
  rw [ht9] at hP
  generalize H1 = H at hP hS ⊢
  obtain ⟨μt, eμt⟩ : ∃ x : va_M, x = u9 := ⟨_, rfl⟩
  rw [← eμt] at hP hw9
  have hμt := hw9; clear hw9
  obtain ⟨y1, y2, y3, y4⟩ := hμt
  refine lv_aload_n hx hb dX10_tidiesAll_18 rfl (lv_at hl 0 rfl) ?_
  refine fz_get (D := (dC, dI)) (ci := 10) (v := .int (iZ (μt 0 38))) (C := RX10) (T := TX10) (N := 53) hx hb hts inG10 hown hK hP (k := 0) (by decide) (F := mF h0) mE_obj rfl 38 (by decide) (hts _ k1204) (fun _ h9 => h9) rfl dX10_tidiesAll_19 ?_
  exact W.iret (v := iZ (μt 0 38)) hx hb hr (fun t9 ht9 hW9 => ⟨⟨iZ (μt 0 38), (μt, μt 0 38), rfl, ⟨rfl, (by
            dsimp only
            refine ⟨y1, fr_trans (fr_mono hz (fun x y h => ?_)) y2, by omega, by omega⟩
            obtain ⟨rfl, rfl⟩ := h
            exact Or.inr (Or.inr (Or.inr (Or.inr (Or.inr (Or.inr (Or.inr ⟨rfl, rfl⟩)))))))⟩, by rw [ht9]; exact hP, va_K.moved hW9.alike hK⟩, hS.F ht9⟩) hS.2.2 dX10_tidiesAll_22
set_option maxHeartbeats 40000000 in
set_option maxRecDepth 100000 in
theorem m_tidy (l : Launch) (dC : Nat → ClassId) (dI : Nat → Nat → Nat) (cI cZ cII cIII : ClassId) (h0 sz : Nat) (μ : va_M) (J : Rw → Prop) (hR : RI J μ) (hJK : JOK J) (hJT : JTD J) : Met l yX10_tidy (Cond.code yX10_tidy cX10_tidy 2 (some .int) :: wsG) ({ frames := 49, cells := 0, slots := 0, locals := 1678 } : Room) (va_Pc [.ref h0] (fun U => U.heap.size = sz ∧ va_P (dC, dI) vwCl (fw (mE cI cZ cII cIII h0) h0 6325 μ) U.heap ∧ va_K (dC, dI) vwCl (mT cI cZ cII cIII) U)) (va_Qi (fun (r9 : Int32) (u : va_M × Int) => r9 = iZ u.2 ∧ (fun (u : va_M) (r : Int) => GE J μ u) u.1 u.2) (fun u t => va_P (dC, dI) vwCl (fw (mE cI cZ cII cIII h0) h0 6325 u.1) t.heap ∧ va_K (dC, dI) vwCl (mT cI cZ cII cIII) t) (fA h0 6325 sz)) 0 0 (fA h0 6325 sz) := by
  refine Met.ofW (cc := cX10_tidy) (maxL := 2) (ret := (some .int)) (by decide) rfl ?_
  intro p e s m args below meth c s₁ B hml hv
  obtain ⟨rfl, hsz, hP, hK⟩ := hv
  have hx := B.exec
  have hb := B.bytes
  have hr := B.returns
  have hts : ∀ w ∈ wsG, w.before _ s = true := hG_of (atoms_spec (ws := (Cond.code yX10_tidy cX10_tidy 2 (some .int) :: wsG)) B.pre)
  have hown : s.vm.findClass RX10 = some m.cls := findClass_of_methodNamed B.named
  have hlocks := B.notSynchronized
  subst hsz
  have hS : va_S (fA h0 6325 s.heap.size) s.heap s.heap [] := va_S.rf
  have hl := lv_entry ([.ref h0]) (n := 2) (Nat.le_of_ble_eq_true rfl)
  rw [lg_entry_eq]
  generalize (lg_sl ([.ref h0]) ++ List.replicate (2 - (lg_sl ([.ref h0])).length) Slot.unset).toArray = ls at hl ⊢
  have hl : lv_has ls 2 [(0, .ref h0)] := hl
  have hQ := hR.1
  refine lv_aload_n hx hb dX10_tidy_0 rfl (lv_at hl 0 rfl) ?_
  refine lv_iconst (v := iZ 0) hx hb dX10_tidy_1 rfl ?_
  refine fz_put (D := (dC, dI)) (ci := 10) (ty := .int) (z := 0) (C := RX10) (T := TX10) (N := 53) hx hb hts inG10 tyX10 tyX10_ok nmX10 hown hK hP fA_in hS (k := 0) (by decide) (F := mF h0) mE_obj rfl 0 (by decide) (hts _ k1166) (fun _ h9 => h9) rfl (by decide +kernel) rfl rfl (fun _ => Nat.le_of_ble_eq_true rfl) (fun _ _ => rfl) dX10_tidy_2 (fun H locs hP hS => ?_)
  obtain ⟨μ1, eμ1⟩ : ∃ x : va_M, x = uz μ 0 0 (0) := ⟨_, rfl⟩
  rw [← eμ1] at hP
  have hfr : fr PS μ μ1 := by rw [eμ1]; exact fr_uz fr_rfl (by unfold PS; omega)
  have ht0 : μ1 0 0 = 0 := by rw [eμ1, uz_s]
  have e10 := hfr 0 10 (PS_n (by omega))
  have e9 := hfr 0 9 (PS_n (by omega))
  have e71 := hfr 719 0 (PS_n (by omega))
  have hQ1 := RQ_fr hQ hfr
  have hQc := hQ
  obtain ⟨f10, ⟨fT, fTb, fTw⟩, fS3, fPg, fw9, fwB, fwT⟩ := hQc
  obtain ⟨g10, ⟨gT, gTb, gTw⟩, gS3, gPg, gw, gwB, gwT⟩ := hQ1
  have gtk := TR_tok gwT gwB.1 gwB.2.1
  have gt1 := gtk.1
  have gt2 := gtk.2.1
  have hR2 := RI_PS hR hfr
  obtain ⟨-, ⟨sw, sw1, sw2, sw3⟩, sbk⟩ := hR2
  have sB := hJK.2.1 sw sw1
  refine lv_aload_n hx hb dX10_tidy_5 rfl (lv_at hl 0 rfl) ?_
  refine va_calli (va_runV (As := []) (rest := []) ⟨hx, hb, hml, hown, hts⟩ (m_tidiesAll l dC dI cI cZ cII cIII h0 H.size μ1 (sw) (by exact sw3) (by exact hJT.1 sw sw1)) (cwV 0 hts (gV_G k1440 k1442 ks_yX10_tidiesAll k13 k1443) rfl rfl rfl (by decide +kernel) ⟨Nat.le_of_ble_eq_true rfl, Nat.le_of_ble_eq_true rfl⟩) ⟨fun a U g mk q => by obtain ⟨q0, q1, qP, qK⟩ := q; exact ⟨q0, q1, qP, va_K.moved (u := U) (U := U.calling g mk a) (Vm.Alike.refl U.vm) qK⟩, va_recv hK hP (ci := 10) (q0 := 0) rfl ((fw_get (by decide)).trans (by rw [mE_obj]; rfl)), fun U hU hW => ⟨rfl, by rw [hU], by rw [hU]; exact hP, va_K.moved hW.alike hK⟩⟩ rfl rfl hl.1 rfl (lv_room (Nat.le_of_ble_eq_true rfl)) dX10_tidy_6 ⟨Nat.le_of_ble_eq_true rfl, Nat.le_of_ble_eq_true rfl⟩) hS (fun q _ h => fA_le hS.1 q h) (fA_le hS.1) (fun r9 u9 t9 H1 locs ht9 hvm9 hw9 hB9 hz9 hk9 hS => ?_)
  obtain ⟨μt, rt⟩ := u9
  obtain ⟨hP, -⟩ := hB9
  rw [ht9] at hP
  generalize H1 = H at hP hS ⊢
  obtain ⟨e9, hw9⟩ := hw9
  have e9 : r9 = iZ rt := e9
  subst e9
  simp only at hP hw9
  have hμt := hw9; clear hw9
  obtain ⟨⟨w2, y1, y2⟩, y3, y4, y5⟩ := hμt
  have hfr := fr_trans hfr (fr_mono y3 (fun x y h => TC_PS h))
  have h00z := y3 0 0 (TC_00 (by omega))
  have jw2 := hJT.2 sw w2 sw1 y2
  have bw2 := (hJK.2.1 w2 jw2).1
  have ytk := TR_tok y1 bw2.1 bw2.2.1
  refine lv_istore_n (lv' := [(1, .int (iZ (rt))), (0, .ref h0)]) hx hb dX10_tidy_9 rfl hl (by decide) rfl (fun ls hl => ?_)
  refine lv_iload_n hx hb dX10_tidy_10 rfl (lv_at hl 0 rfl) ?_
  refine fz_if_ne (tgt := 16) (by constructor <;> omega) hx hb dX10_tidy_11 (by decide) (fun c11_ => ?_) (fun c11_ => ?_)
  · obtain ⟨hQ3, ⟨tw, tw1, tw2, tw3⟩, tbk⟩ := RI_PS hR hfr
    refine lv_aload_n hx hb dX10_tidy_16 rfl (lv_at hl 1 rfl) ?_
    refine lv_iconst (v := iZ 0) hx hb dX10_tidy_17 rfl ?_
    refine va_callv (va_runV (As := [.int (iZ (0))]) (rest := []) ⟨hx, hb, hml, hown, hts⟩ (m_remembers l dC dI cI cZ cII cIII h0 H.size μt (0) (J) (tw) (by exact tbk) (by exact tw3) (by exact tw2) (by exact tw1)) (cwV 1 hts (gV_G k1476 k1478 ks_yX10_remembers k13 k1479) rfl rfl rfl (by decide +kernel) ⟨Nat.le_of_ble_eq_true rfl, Nat.le_of_ble_eq_true rfl⟩) ⟨fun a U g mk q => by obtain ⟨q0, q1, qP, qK⟩ := q; exact ⟨q0, q1, qP, va_K.moved (u := U) (U := U.calling g mk a) (Vm.Alike.refl U.vm) qK⟩, va_recv hK hP (ci := 10) (q0 := 0) rfl ((fw_get (by decide)).trans (by rw [mE_obj]; rfl)), fun U hU hW => ⟨rfl, by rw [hU], by rw [hU]; exact hP, va_K.moved hW.alike hK⟩⟩ rfl rfl hl.1 rfl (lv_room (Nat.le_of_ble_eq_true rfl)) dX10_tidy_18 ⟨Nat.le_of_ble_eq_true rfl, Nat.le_of_ble_eq_true rfl⟩) hS (fun q _ h => fA_le hS.1 q h) (fA_le hS.1) (fun u9 t9 H1 locs ht9 hvm9 hw9 hB9 hz9 hk9 hS => ?_)
    obtain ⟨hP, -⟩ := hB9
    rw [ht9] at hP
    generalize H1 = H at hP hS ⊢
    obtain ⟨μr, eμr⟩ : ∃ x : va_M, x = u9 := ⟨_, rfl⟩
    rw [← eμr] at hP hw9
    have hμr := hw9; clear hw9
    obtain ⟨z1, z2⟩ := hμr
    have y1c : TR μr 54 w2 := TR_fr y1 z1 (fun x => by unfold BF; omega) (by unfold BF; omega)
    refine lv_aload_n hx hb dX10_tidy_21 rfl (lv_at hl 1 rfl) ?_
    refine lv_bipush (v := iZ 54) hx hb dX10_tidy_22 rfl ?_
    refine lv_iconst (v := iZ 0) hx hb dX10_tidy_24 rfl ?_
    refine va_callv (va_runV (As := [.int (iZ (54)), .int (iZ (0))]) (rest := []) ⟨hx, hb, hml, hown, hts⟩ (m_copiesAll l dC dI cI cZ cII cIII h0 H.size μr (54) (0) (w2) (by decide) (by decide) (by decide) (by exact y1c) (by exact bw2.2.1)) (cwV 2 hts (gV_G k1428 k1430 ks_yX10_copiesAll k13 k1431) rfl rfl rfl (by decide +kernel) ⟨Nat.le_of_ble_eq_true rfl, Nat.le_of_ble_eq_true rfl⟩) ⟨fun a U g mk q => by obtain ⟨q0, q1, qP, qK⟩ := q; exact ⟨q0, q1, qP, va_K.moved (u := U) (U := U.calling g mk a) (Vm.Alike.refl U.vm) qK⟩, va_recv hK hP (ci := 10) (q0 := 0) rfl ((fw_get (by decide)).trans (by rw [mE_obj]; rfl)), fun U hU hW => ⟨rfl, by rw [hU], by rw [hU]; exact hP, va_K.moved hW.alike hK⟩⟩ rfl rfl hl.1 rfl (lv_room (Nat.le_of_ble_eq_true rfl)) dX10_tidy_25 ⟨Nat.le_of_ble_eq_true rfl, Nat.le_of_ble_eq_true rfl⟩) hS (fun q _ h => fA_le hS.1 q h) (fA_le hS.1) (fun u9 t9 H1 locs ht9 hvm9 hw9 hB9 hz9 hk9 hS => ?_)
    obtain ⟨hP, -⟩ := hB9
    rw [ht9] at hP
    generalize H1 = H at hP hS ⊢
    obtain ⟨μk, eμk⟩ : ∃ x : va_M, x = u9 := ⟨_, rfl⟩
    rw [← eμk] at hP hw9
    have hμk := hw9; clear hw9
    obtain ⟨x1, x2⟩ := hμk
    rw [show (0 : Int).toNat = 0 from rfl] at x1 x2
    refine lv_iload_n hx hb dX10_tidy_28 rfl (lv_at hl 0 rfl) ?_
    exact W.iret (v := iZ (rt)) hx hb hr (fun t9 ht9 hW9 => ⟨⟨iZ (rt), (μk, rt), rfl, ⟨rfl, (by
                dsimp only
                have gk := fr_trans (fr_mono (P2 := KF) z1 (fun x y h => Or.inr (Or.inr (Or.inl h)))) (fr_mono (P2 := KF) x2 (fun x y h => Or.inr (Or.inl h)))
                have gf : fr KF μ μk := fr_trans (fr_mono hfr (fun x y h => Or.inl h)) gk
                have g0b := x2 0 0 (by unfold PT; omega)
                have g0c := z1 0 0 (by unfold BF; omega)
                have g22 : μk 0 22 = 0 ∨ μk 0 22 = 1 := by rw [x2 0 22 (by unfold PT; omega)]; exact z2.2.1
                have gbk : bkR J μk := bkR_fr (P := PT 0) z2 x2 g22 (fun x y h => by unfold PT; omega)
                exact ⟨gf, ⟨RQ_to hR.1 gf ⟨w2, bw2, x1⟩, ⟨w2, jw2, bw2, x1⟩, gbk⟩, by omega⟩)⟩, by rw [ht9]; exact hP, va_K.moved hW9.alike hK⟩, hS.F ht9⟩) hS.2.2 dX10_tidy_29
  · refine lv_iconst (v := iZ 0) hx hb dX10_tidy_14 rfl ?_
    exact W.iret (v := iZ (0)) hx hb hr (fun t9 ht9 hW9 => ⟨⟨iZ (0), (μt, 0), rfl, ⟨rfl, (by
                dsimp only
                exact GE_PS hR ⟨hfr, by omega⟩)⟩, by rw [ht9]; exact hP, va_K.moved hW9.alike hK⟩, hS.F ht9⟩) hS.2.2 dX10_tidy_15
set_option maxHeartbeats 40000000 in
set_option maxRecDepth 100000 in
theorem m_tidied (l : Launch) (dC : Nat → ClassId) (dI : Nat → Nat → Nat) (cI cZ cII cIII : ClassId) (h0 sz : Nat) (μ : va_M) (w : Int) (J : Rw → Prop) (hR : RI J μ) (hJK : JOK J) (hJT : JTD J) (hw9 : inR w) : Met l yX10_tidied (Cond.code yX10_tidied cX10_tidied 3 (some .int) :: wsG) ({ frames := 49, cells := 0, slots := 0, locals := 1678 } : Room) (va_Pc [.ref h0, .int (iZ (w))] (fun U => U.heap.size = sz ∧ va_P (dC, dI) vwCl (fw (mE cI cZ cII cIII h0) h0 6325 μ) U.heap ∧ va_K (dC, dI) vwCl (mT cI cZ cII cIII) U)) (va_Qi (fun (r9 : Int32) (u : va_M × Int) => r9 = iZ u.2 ∧ (fun (u : va_M) (r : Int) => GE J μ u) u.1 u.2) (fun u t => va_P (dC, dI) vwCl (fw (mE cI cZ cII cIII h0) h0 6325 u.1) t.heap ∧ va_K (dC, dI) vwCl (mT cI cZ cII cIII) t) (fA h0 6325 sz)) 0 0 (fA h0 6325 sz) := by
  refine Met.ofW (cc := cX10_tidied) (maxL := 3) (ret := (some .int)) (by decide) rfl ?_
  intro p e s m args below meth c s₁ B hml hv
  obtain ⟨rfl, hsz, hP, hK⟩ := hv
  have hx := B.exec
  have hb := B.bytes
  have hr := B.returns
  have hts : ∀ w ∈ wsG, w.before _ s = true := hG_of (atoms_spec (ws := (Cond.code yX10_tidied cX10_tidied 3 (some .int) :: wsG)) B.pre)
  have hown : s.vm.findClass RX10 = some m.cls := findClass_of_methodNamed B.named
  have hlocks := B.notSynchronized
  subst hsz
  have hS : va_S (fA h0 6325 s.heap.size) s.heap s.heap [] := va_S.rf
  have hl := lv_entry ([.ref h0, .int (iZ (w))]) (n := 3) (Nat.le_of_ble_eq_true rfl)
  rw [lg_entry_eq]
  generalize (lg_sl ([.ref h0, .int (iZ (w))]) ++ List.replicate (3 - (lg_sl ([.ref h0, .int (iZ (w))])).length) Slot.unset).toArray = ls at hl ⊢
  have hl : lv_has ls 3 [(0, .ref h0), (1, .int (iZ (w)))] := hl
  have hQ := hR.1
  refine lv_aload_n hx hb dX10_tidied_0 rfl (lv_at hl 0 rfl) ?_
  refine lv_iconst (v := iZ 0) hx hb dX10_tidied_1 rfl ?_
  refine fz_put (D := (dC, dI)) (ci := 10) (ty := .int) (z := 0) (C := RX10) (T := TX10) (N := 53) hx hb hts inG10 tyX10 tyX10_ok nmX10 hown hK hP fA_in hS (k := 0) (by decide) (F := mF h0) mE_obj rfl 0 (by decide) (hts _ k1166) (fun _ h9 => h9) rfl (by decide +kernel) rfl rfl (fun _ => Nat.le_of_ble_eq_true rfl) (fun _ _ => rfl) dX10_tidied_2 (fun H locs hP hS => ?_)
  obtain ⟨μ1, eμ1⟩ : ∃ x : va_M, x = uz μ 0 0 (0) := ⟨_, rfl⟩
  rw [← eμ1] at hP
  have hfr : fr PS μ μ1 := by rw [eμ1]; exact fr_uz fr_rfl (by unfold PS; omega)
  have ht0 : μ1 0 0 = 0 := by rw [eμ1, uz_s]
  have e10 := hfr 0 10 (PS_n (by omega))
  have e9 := hfr 0 9 (PS_n (by omega))
  have e71 := hfr 719 0 (PS_n (by omega))
  have hQ1 := RQ_fr hQ hfr
  have hQc := hQ
  obtain ⟨f10, ⟨fT, fTb, fTw⟩, fS3, fPg, fw9, fwB, fwT⟩ := hQc
  obtain ⟨g10, ⟨gT, gTb, gTw⟩, gS3, gPg, gw, gwB, gwT⟩ := hQ1
  have gtk := TR_tok gwT gwB.1 gwB.2.1
  have gt1 := gtk.1
  have gt2 := gtk.2.1
  refine lv_aload_n hx hb dX10_tidied_5 rfl (lv_at hl 0 rfl) ?_
  refine lv_iload_n hx hb dX10_tidied_6 rfl (lv_at hl 1 rfl) ?_
  refine lv_iconst (v := iZ 0) hx hb dX10_tidied_7 rfl ?_
  refine lv_iconst (v := iZ 3) hx hb dX10_tidied_8 rfl ?_
  refine va_calli (va_runS (As := [.int (iZ (w)), .int (iZ (0)), .int (iZ (3))]) (rest := [.ref h0]) ⟨hx, hb, hml, hown, hts⟩ (m_in l dC dI cI cZ cII cIII h0 H.size μ1 (w) (0) (3) (by first | assumption | omega | exact ⟨by omega, by omega⟩) (by first | assumption | omega | exact ⟨by omega, by omega⟩) (by first | assumption | omega | exact ⟨by omega, by omega⟩)) (cwS 3 hts (gS_G k1339 k1340 k13 k1341) rfl rfl rfl (by decide +kernel) ⟨Nat.le_of_ble_eq_true rfl, Nat.le_of_ble_eq_true rfl⟩) ⟨fun a U g mk q => by obtain ⟨q0, q1, qP, qK⟩ := q; exact ⟨q0, q1, qP, va_K.moved (u := U) (U := U.calling g mk a) (Vm.Alike.refl U.vm) qK⟩, fun U hU hW => ⟨rfl, by rw [hU], by rw [hU]; exact hP, va_K.moved hW.alike hK⟩⟩ rfl rfl hl.1 rfl (lv_room (Nat.le_of_ble_eq_true rfl)) dX10_tidied_9 ⟨Nat.le_of_ble_eq_true rfl, Nat.le_of_ble_eq_true rfl⟩) hS (fun q _ h => fA_le hS.1 q h) (fA_le hS.1) (fun r9 u9 t9 H1 locs ht9 hvm9 hw9 hB9 hz9 hk9 hS => ?_)
  obtain ⟨μ2, r3⟩ := u9
  obtain ⟨hP, -⟩ := hB9
  rw [ht9] at hP
  generalize H1 = H at hP hS ⊢
  obtain ⟨e9, hw9⟩ := hw9
  have e9 : r9 = iZ r3 := e9
  subst e9
  simp only at hP hw9
  have hμ2 := hw9; clear hw9
  rw [hμ2.1] at hP; have hμ2 := hμ2.2
  have hin := hμ2
  have hin2 := if_01 hμ2
  refine fz_if_ne (tgt := 19) (by constructor <;> omega) hx hb dX10_tidied_12 (by decide) (fun c12_ => ?_) (fun c12_ => ?_)
  · refine lv_iconst (v := iZ 0) hx hb dX10_tidied_19 rfl ?_
    refine lv_iconst (v := iZ 1) hx hb dX10_tidied_20 rfl ?_
    refine lv_iconst (v := iZ 1) hx hb dX10_tidied_21 rfl ?_
    refine va_calli (va_runV (As := [.int (iZ (0)), .int (iZ (1)), .int (iZ (1))]) (rest := []) ⟨hx, hb, hml, hown, hts⟩ (m_bad2 l dC dI cI cZ cII cIII h0 H.size μ1 (0) (1) (1) (by first | assumption | omega | exact ⟨by omega, by omega⟩) (by first | assumption | omega | exact ⟨by omega, by omega⟩) (by first | assumption | omega | exact ⟨by omega, by omega⟩) (by first | assumption | omega | exact ⟨by omega, by omega⟩)) (cwV 3 hts (gV_G k1342 k1344 ks_yX10_bad k13 k1345) rfl rfl rfl (by decide +kernel) ⟨Nat.le_of_ble_eq_true rfl, Nat.le_of_ble_eq_true rfl⟩) ⟨fun a U g mk q => by obtain ⟨q0, q1, qP, qK⟩ := q; exact ⟨q0, q1, qP, va_K.moved (u := U) (U := U.calling g mk a) (Vm.Alike.refl U.vm) qK⟩, va_recv hK hP (ci := 10) (q0 := 0) rfl ((fw_get (by decide)).trans (by rw [mE_obj]; rfl)), fun U hU hW => ⟨rfl, by rw [hU], by rw [hU]; exact hP, va_K.moved hW.alike hK⟩⟩ rfl rfl hl.1 rfl (lv_room (Nat.le_of_ble_eq_true rfl)) dX10_tidied_22 ⟨Nat.le_of_ble_eq_true rfl, Nat.le_of_ble_eq_true rfl⟩) hS (fun q _ h => fA_le hS.1 q h) (fA_le hS.1) (fun r9 u9 t9 H1 locs ht9 hvm9 hw9 hB9 hz9 hk9 hS => ?_)
    obtain ⟨μ4, r5⟩ := u9
    obtain ⟨hP, -⟩ := hB9
    rw [ht9] at hP
    generalize H1 = H at hP hS ⊢
    obtain ⟨e9, hw9⟩ := hw9
    have e9 : r9 = iZ r5 := e9
    subst e9
    simp only at hP hw9
    have hμ4 := hw9; clear hw9
    have hfr := fr_trans hfr (badP_fr hμ4)
    have hrb := badP_r hμ4
    obtain rfl : r5 = 0 := by omega
    refine fz_if_eq (tgt := 30) (by decide) hx hb dX10_tidied_25 (by decide) (fun c25_ => ?_) (fun h9 => absurd h9 (by decide))
    have hQ2 := RQ_fr hQ hfr
    obtain ⟨k10, ⟨kT, kTb, kTw⟩, kS3, kPg, kw, kwB, kwT⟩ := hQ2
    have e10k := hfr 0 10 (PS_n (by omega))
    have e9k := hfr 0 9 (PS_n (by omega))
    have e71k := hfr 719 0 (PS_n (by omega))
    have ktk := TR_tok kwT kwB.1 kwB.2.1
    have kt1 := ktk.1
    have kt2 := ktk.2.1
    have hR2 := RI_PS hR hfr
    obtain ⟨-, ⟨sw, sw1, sw2, sw3⟩, sbk⟩ := hR2
    have sB := hJK.2.1 sw sw1
    refine lv_aload_n hx hb dX10_tidied_30 rfl (lv_at hl 0 rfl) ?_
    refine va_calli (va_runV (As := []) (rest := []) ⟨hx, hb, hml, hown, hts⟩ (m_tidiesAll l dC dI cI cZ cII cIII h0 H.size μ4 (sw) (by exact sw3) (by exact hJT.1 sw sw1)) (cwV 0 hts (gV_G k1440 k1442 ks_yX10_tidiesAll k13 k1443) rfl rfl rfl (by decide +kernel) ⟨Nat.le_of_ble_eq_true rfl, Nat.le_of_ble_eq_true rfl⟩) ⟨fun a U g mk q => by obtain ⟨q0, q1, qP, qK⟩ := q; exact ⟨q0, q1, qP, va_K.moved (u := U) (U := U.calling g mk a) (Vm.Alike.refl U.vm) qK⟩, va_recv hK hP (ci := 10) (q0 := 0) rfl ((fw_get (by decide)).trans (by rw [mE_obj]; rfl)), fun U hU hW => ⟨rfl, by rw [hU], by rw [hU]; exact hP, va_K.moved hW.alike hK⟩⟩ rfl rfl hl.1 rfl (lv_room (Nat.le_of_ble_eq_true rfl)) dX10_tidied_31 ⟨Nat.le_of_ble_eq_true rfl, Nat.le_of_ble_eq_true rfl⟩) hS (fun q _ h => fA_le hS.1 q h) (fA_le hS.1) (fun r9 u9 t9 H1 locs ht9 hvm9 hw9 hB9 hz9 hk9 hS => ?_)
    obtain ⟨μt, rt⟩ := u9
    obtain ⟨hP, -⟩ := hB9
    rw [ht9] at hP
    generalize H1 = H at hP hS ⊢
    obtain ⟨e9, hw9⟩ := hw9
    have e9 : r9 = iZ rt := e9
    subst e9
    simp only at hP hw9
    have hμt := hw9; clear hw9
    obtain ⟨⟨w2, y1, y2⟩, y3, y4, y5⟩ := hμt
    have hfr := fr_trans hfr (fr_mono y3 (fun x y h => TC_PS h))
    have h00z := y3 0 0 (TC_00 (by omega))
    have jw2 := hJT.2 sw w2 sw1 y2
    have bw2 := (hJK.2.1 w2 jw2).1
    have ytk := TR_tok y1 bw2.1 bw2.2.1
    refine lv_istore_n (lv' := [(2, .int (iZ (rt))), (0, .ref h0), (1, .int (iZ (w)))]) hx hb dX10_tidied_34 rfl hl (by decide) rfl (fun ls hl => ?_)
    refine lv_iload_n hx hb dX10_tidied_35 rfl (lv_at hl 2 rfl) ?_
    refine lv_iconst (v := iZ 3) hx hb dX10_tidied_36 rfl ?_
    refine fz_icmp_ge (tgt := 70) (by constructor <;> omega) (by decide) hx hb dX10_tidied_37 (by decide) (fun c37_ => ?_) (fun c37_ => ?_)
    · have sw9 : TR μt 0 sw := TR_fr sw3 y3 TC_t0 TC_n0
      refine lv_aload_n hx hb dX10_tidied_70 rfl (lv_at hl 1 rfl) ?_
      refine lv_iconst (v := iZ 0) hx hb dX10_tidied_71 rfl ?_
      refine lv_bipush (v := iZ 50) hx hb dX10_tidied_72 rfl ?_
      refine va_callv (va_runV (As := [.int (iZ (0)), .int (iZ (50))]) (rest := []) ⟨hx, hb, hml, hown, hts⟩ (m_copiesAll l dC dI cI cZ cII cIII h0 H.size μt (0) (50) (sw) (by decide) (by decide) (by decide) (by exact sw9) (by exact sw2.2.1)) (cwV 2 hts (gV_G k1428 k1430 ks_yX10_copiesAll k13 k1431) rfl rfl rfl (by decide +kernel) ⟨Nat.le_of_ble_eq_true rfl, Nat.le_of_ble_eq_true rfl⟩) ⟨fun a U g mk q => by obtain ⟨q0, q1, qP, qK⟩ := q; exact ⟨q0, q1, qP, va_K.moved (u := U) (U := U.calling g mk a) (Vm.Alike.refl U.vm) qK⟩, va_recv hK hP (ci := 10) (q0 := 0) rfl ((fw_get (by decide)).trans (by rw [mE_obj]; rfl)), fun U hU hW => ⟨rfl, by rw [hU], by rw [hU]; exact hP, va_K.moved hW.alike hK⟩⟩ rfl rfl hl.1 rfl (lv_room (Nat.le_of_ble_eq_true rfl)) dX10_tidied_74 ⟨Nat.le_of_ble_eq_true rfl, Nat.le_of_ble_eq_true rfl⟩) hS (fun q _ h => fA_le hS.1 q h) (fA_le hS.1) (fun u9 t9 H1 locs ht9 hvm9 hw9 hB9 hz9 hk9 hS => ?_)
      obtain ⟨hP, -⟩ := hB9
      rw [ht9] at hP
      generalize H1 = H at hP hS ⊢
      obtain ⟨μa, eμa⟩ : ∃ x : va_M, x = u9 := ⟨_, rfl⟩
      rw [← eμa] at hP hw9
      have hμa := hw9; clear hw9
      obtain ⟨a1_, a2_⟩ := hμa
      rw [show (50 : Int).toNat = 50 from rfl] at a1_ a2_
      have y1a : TR μa 54 w2 := TR_fr y1 a2_ (fun x => by unfold PT; omega) (by unfold PT; omega)
      refine lv_aload_n hx hb dX10_tidied_77 rfl (lv_at hl 1 rfl) ?_
      refine lv_bipush (v := iZ 54) hx hb dX10_tidied_78 rfl ?_
      refine lv_iconst (v := iZ 0) hx hb dX10_tidied_80 rfl ?_
      refine va_callv (va_runV (As := [.int (iZ (54)), .int (iZ (0))]) (rest := []) ⟨hx, hb, hml, hown, hts⟩ (m_copiesAll l dC dI cI cZ cII cIII h0 H.size μa (54) (0) (w2) (by decide) (by decide) (by decide) (by exact y1a) (by exact bw2.2.1)) (cwV 2 hts (gV_G k1428 k1430 ks_yX10_copiesAll k13 k1431) rfl rfl rfl (by decide +kernel) ⟨Nat.le_of_ble_eq_true rfl, Nat.le_of_ble_eq_true rfl⟩) ⟨fun a U g mk q => by obtain ⟨q0, q1, qP, qK⟩ := q; exact ⟨q0, q1, qP, va_K.moved (u := U) (U := U.calling g mk a) (Vm.Alike.refl U.vm) qK⟩, va_recv hK hP (ci := 10) (q0 := 0) rfl ((fw_get (by decide)).trans (by rw [mE_obj]; rfl)), fun U hU hW => ⟨rfl, by rw [hU], by rw [hU]; exact hP, va_K.moved hW.alike hK⟩⟩ rfl rfl hl.1 rfl (lv_room (Nat.le_of_ble_eq_true rfl)) dX10_tidied_81 ⟨Nat.le_of_ble_eq_true rfl, Nat.le_of_ble_eq_true rfl⟩) hS (fun q _ h => fA_le hS.1 q h) (fA_le hS.1) (fun u9 t9 H1 locs ht9 hvm9 hw9 hB9 hz9 hk9 hS => ?_)
      obtain ⟨hP, -⟩ := hB9
      rw [ht9] at hP
      generalize H1 = H at hP hS ⊢
      obtain ⟨μb, eμb⟩ : ∃ x : va_M, x = u9 := ⟨_, rfl⟩
      rw [← eμb] at hP hw9
      have hμb := hw9; clear hw9
      obtain ⟨b1_, b2_⟩ := hμb
      rw [show (0 : Int).toNat = 0 from rfl] at b1_ b2_
      have hfa : fr PS μ μa := fr_trans hfr (fr_mono a2_ (fun x y h => by unfold PT at h; unfold PS; omega))
      have hkb : fr KF μ μb := fr_trans (fr_mono hfa (fun x y h => Or.inl h)) (fr_mono b2_ (fun x y h => Or.inr (Or.inl h)))
      have s50 : TR μb 50 sw := TR_fr a1_ b2_ (fun x => by unfold PT; omega) (by unfold PT; omega)
      have hQb : RQ μb := RQ_to hR.1 hkb ⟨w2, bw2, b1_⟩
      refine lv_aload_n hx hb dX10_tidied_84 rfl (lv_at hl 1 rfl) ?_
      refine va_calli (va_runV (As := []) (rest := []) ⟨hx, hb, hml, hown, hts⟩ (m_fitMany l dC dI cI cZ cII cIII h0 H.size μb  (by exact hQb)) (cwV 0 hts (gV_G k1496 k1498 ks_yX10_fitMany k13 k1499) rfl rfl rfl (by decide +kernel) ⟨Nat.le_of_ble_eq_true rfl, Nat.le_of_ble_eq_true rfl⟩) ⟨fun a U g mk q => by obtain ⟨q0, q1, qP, qK⟩ := q; exact ⟨q0, q1, qP, va_K.moved (u := U) (U := U.calling g mk a) (Vm.Alike.refl U.vm) qK⟩, va_recv hK hP (ci := 10) (q0 := 0) rfl ((fw_get (by decide)).trans (by rw [mE_obj]; rfl)), fun U hU hW => ⟨rfl, by rw [hU], by rw [hU]; exact hP, va_K.moved hW.alike hK⟩⟩ rfl rfl hl.1 rfl (lv_room (Nat.le_of_ble_eq_true rfl)) dX10_tidied_85 ⟨Nat.le_of_ble_eq_true rfl, Nat.le_of_ble_eq_true rfl⟩) hS (fun q _ h => fA_le hS.1 q h) (fA_le hS.1) (fun r9 u9 t9 H1 locs ht9 hvm9 hw9 hB9 hz9 hk9 hS => ?_)
      obtain ⟨μc, rc⟩ := u9
      obtain ⟨hP, -⟩ := hB9
      rw [ht9] at hP
      generalize H1 = H at hP hS ⊢
      obtain ⟨e9, hw9⟩ := hw9
      have e9 : r9 = iZ rc := e9
      subst e9
      simp only at hP hw9
      have hμc := hw9; clear hw9
      have c1_ := hμc
      have s50c : TR μc 50 sw := TR_fr s50 c1_ (fun x => by unfold SW SF CF; omega) (by unfold SW SF CF; omega)
      have hbc : fr PS μb μc := fr_mono c1_ (fun x y h => SW_PS h)
      refine lv_istore_n (lv' := [(2, .int (iZ (rc))), (0, .ref h0), (1, .int (iZ (w)))]) hx hb dX10_tidied_88 rfl hl (by decide) rfl (fun ls hl => ?_)
      refine lv_aload_n hx hb dX10_tidied_89 rfl (lv_at hl 1 rfl) ?_
      refine lv_bipush (v := iZ 50) hx hb dX10_tidied_90 rfl ?_
      refine lv_iconst (v := iZ 0) hx hb dX10_tidied_92 rfl ?_
      refine va_callv (va_runV (As := [.int (iZ (50)), .int (iZ (0))]) (rest := []) ⟨hx, hb, hml, hown, hts⟩ (m_copiesAll l dC dI cI cZ cII cIII h0 H.size μc (50) (0) (sw) (by decide) (by decide) (by decide) (by exact s50c) (by exact sw2.2.1)) (cwV 2 hts (gV_G k1428 k1430 ks_yX10_copiesAll k13 k1431) rfl rfl rfl (by decide +kernel) ⟨Nat.le_of_ble_eq_true rfl, Nat.le_of_ble_eq_true rfl⟩) ⟨fun a U g mk q => by obtain ⟨q0, q1, qP, qK⟩ := q; exact ⟨q0, q1, qP, va_K.moved (u := U) (U := U.calling g mk a) (Vm.Alike.refl U.vm) qK⟩, va_recv hK hP (ci := 10) (q0 := 0) rfl ((fw_get (by decide)).trans (by rw [mE_obj]; rfl)), fun U hU hW => ⟨rfl, by rw [hU], by rw [hU]; exact hP, va_K.moved hW.alike hK⟩⟩ rfl rfl hl.1 rfl (lv_room (Nat.le_of_ble_eq_true rfl)) dX10_tidied_93 ⟨Nat.le_of_ble_eq_true rfl, Nat.le_of_ble_eq_true rfl⟩) hS (fun q _ h => fA_le hS.1 q h) (fA_le hS.1) (fun u9 t9 H1 locs ht9 hvm9 hw9 hB9 hz9 hk9 hS => ?_)
      obtain ⟨hP, -⟩ := hB9
      rw [ht9] at hP
      generalize H1 = H at hP hS ⊢
      obtain ⟨μd, eμd⟩ : ∃ x : va_M, x = u9 := ⟨_, rfl⟩
      rw [← eμd] at hP hw9
      have hμd := hw9; clear hw9
      obtain ⟨d1_, d2_⟩ := hμd
      rw [show (0 : Int).toNat = 0 from rfl] at d1_ d2_
      refine lv_iload_n hx hb dX10_tidied_96 rfl (lv_at hl 0 rfl) ?_
      exact W.iret (v := iZ (rc)) hx hb hr (fun t9 ht9 hW9 => ⟨⟨iZ (rc), (μd, rc), rfl, ⟨rfl, (by
                    dsimp only
                    have gq : fr (fun x y => PS x y ∨ PT 0 x y) μ μd := fr_trans (fr_trans (fr_trans (fr_mono hfa (fun x y h => Or.inl h)) (fr_mono b2_ (fun x y h => Or.inr h))) (fr_mono hbc (fun x y h => Or.inl h))) (fr_mono d2_ (fun x y h => Or.inr h))
                    have gf : fr KF μ μd := fr_mono gq (fun x y h => h.elim Or.inl (fun h => Or.inr (Or.inl h)))
                    have g22 : μd 0 22 = μ 0 22 := gq 0 22 (by unfold PS PT; omega)
                    have g00a := d2_ 0 0 (by unfold PT; omega)
                    have g00b := c1_ 0 0 (by unfold SW SF CF; omega)
                    have g00c := b2_ 0 0 (by unfold PT; omega)
                    have g00d := a2_ 0 0 (by unfold PT; omega)
                    have gbk : bkR J μd := bkR_fr (P := fun x y => PS x y ∨ PT 0 x y) hR.2.2 gq (by rw [g22]; exact hR.2.2.2.1) (fun x y h => by unfold PS PT; omega)
                    exact ⟨gf, ⟨RQ_to hR.1 gf ⟨sw, sw2, d1_⟩, ⟨sw, sw1, sw2, d1_⟩, gbk⟩, by omega⟩)⟩, by rw [ht9]; exact hP, va_K.moved hW9.alike hK⟩, hS.F ht9⟩) hS.2.2 dX10_tidied_97
    · refine lv_iload_n hx hb dX10_tidied_40 rfl (lv_at hl 2 rfl) ?_
      refine fz_if_ne (tgt := 48) (by constructor <;> omega) hx hb dX10_tidied_41 (by decide) (fun c41_ => ?_) (fun c41_ => ?_)
      · refine lv_iload_n hx hb dX10_tidied_48 rfl (lv_at hl 2 rfl) ?_
        refine lv_iconst (v := iZ 1) hx hb dX10_tidied_49 rfl ?_
        refine fz_icmp_ne (tgt := 62) (by constructor <;> omega) (by decide) hx hb dX10_tidied_50 (by decide) (fun c50_ => ?_) (fun c50_ => ?_)
        · refine lv_aload_n hx hb dX10_tidied_62 rfl (lv_at hl 1 rfl) ?_
          refine fz_get (D := (dC, dI)) (ci := 10) (v := .ref (h0 + 719)) (C := RX10) (T := TX10) (N := 53) hx hb hts inG10 hown hK hP (k := 0) (by decide) (F := mF h0) mE_obj rfl 21 (by decide) (hts _ k1187) (fun _ h9 => h9) rfl dX10_tidied_63 ?_
          refine lv_bipush (v := iZ 54) hx hb dX10_tidied_66 rfl ?_
          refine fz_ld (k := 719) (n := 70) hx hb hK hP 0 (by decide) mE_nodes rfl ⟨by omega, by omega⟩ (by decide) dX10_tidied_68 ?_
          rw [show (54 : Int).toNat = 54 from rfl]
          exact W.iret (v := iZ (μt 719 54)) hx hb hr (fun t9 ht9 hW9 => ⟨⟨iZ (μt 719 54), (μt, μt 719 54), rfl, ⟨rfl, (by
                            dsimp only
                            exact GE_PS hR ⟨hfr, by omega⟩)⟩, by rw [ht9]; exact hP, va_K.moved hW9.alike hK⟩, hS.F ht9⟩) hS.2.2 dX10_tidied_69
        · refine lv_aload_n hx hb dX10_tidied_53 rfl (lv_at hl 1 rfl) ?_
          refine lv_bipush (v := iZ 54) hx hb dX10_tidied_54 rfl ?_
          refine va_calli (va_runV (As := [.int (iZ (54))]) (rest := []) ⟨hx, hb, hml, hown, hts⟩ (m_sizeOfAll2 l dC dI cI cZ cII cIII h0 H.size μt (54) (by decide) (by exact ytk)) (cwV 1 hts (gV_G k1488 k1490 ks_yX10_sizeOfAll k13 k1491) rfl rfl rfl (by decide +kernel) ⟨Nat.le_of_ble_eq_true rfl, Nat.le_of_ble_eq_true rfl⟩) ⟨fun a U g mk q => by obtain ⟨q0, q1, qP, qK⟩ := q; exact ⟨q0, q1, qP, va_K.moved (u := U) (U := U.calling g mk a) (Vm.Alike.refl U.vm) qK⟩, va_recv hK hP (ci := 10) (q0 := 0) rfl ((fw_get (by decide)).trans (by rw [mE_obj]; rfl)), fun U hU hW => ⟨rfl, by rw [hU], by rw [hU]; exact hP, va_K.moved hW.alike hK⟩⟩ rfl rfl hl.1 rfl (lv_room (Nat.le_of_ble_eq_true rfl)) dX10_tidied_56 ⟨Nat.le_of_ble_eq_true rfl, Nat.le_of_ble_eq_true rfl⟩) hS (fun q _ h => fA_le hS.1 q h) (fA_le hS.1) (fun r9 u9 t9 H1 locs ht9 hvm9 hw9 hB9 hz9 hk9 hS => ?_)
          obtain ⟨μ6, r7⟩ := u9
          obtain ⟨hP, -⟩ := hB9
          rw [ht9] at hP
          generalize H1 = H at hP hS ⊢
          obtain ⟨e9, hw9⟩ := hw9
          have e9 : r9 = iZ r7 := e9
          subst e9
          simp only at hP hw9
          have hμ6 := hw9; clear hw9
          rw [hμ6.1] at hP; have hμ6 := hμ6.2
          refine lv_goto (tgt := 69) hx hb dX10_tidied_59 (by decide) ?_
          exact W.iret (v := iZ (r7)) hx hb hr (fun t9 ht9 hW9 => ⟨⟨iZ (r7), (μt, r7), rfl, ⟨rfl, (by
                            dsimp only
                            exact GE_PS hR ⟨hfr, by omega⟩)⟩, by rw [ht9]; exact hP, va_K.moved hW9.alike hK⟩, hS.F ht9⟩) hS.2.2 dX10_tidied_69
      · refine lv_iload_n hx hb dX10_tidied_44 rfl (lv_at hl 0 rfl) ?_
        refine lv_goto (tgt := 69) hx hb dX10_tidied_45 (by decide) ?_
        exact W.iret (v := iZ (rt)) hx hb hr (fun t9 ht9 hW9 => ⟨⟨iZ (rt), (μt, rt), rfl, ⟨rfl, (by
                        dsimp only
                        exact GE_PS hR ⟨hfr, by omega⟩)⟩, by rw [ht9]; exact hP, va_K.moved hW9.alike hK⟩, hS.F ht9⟩) hS.2.2 dX10_tidied_69
  · refine lv_iconst (v := iZ 1) hx hb dX10_tidied_15 rfl ?_
    refine lv_goto (tgt := 20) hx hb dX10_tidied_16 (by decide) ?_
    refine lv_iconst (v := iZ 1) hx hb dX10_tidied_20 rfl ?_
    refine lv_iconst (v := iZ 1) hx hb dX10_tidied_21 rfl ?_
    refine va_calli (va_runV (As := [.int (iZ (1)), .int (iZ (1)), .int (iZ (1))]) (rest := []) ⟨hx, hb, hml, hown, hts⟩ (m_bad2 l dC dI cI cZ cII cIII h0 H.size μ1 (1) (1) (1) (by first | assumption | omega | exact ⟨by omega, by omega⟩) (by first | assumption | omega | exact ⟨by omega, by omega⟩) (by first | assumption | omega | exact ⟨by omega, by omega⟩) (by first | assumption | omega | exact ⟨by omega, by omega⟩)) (cwV 3 hts (gV_G k1342 k1344 ks_yX10_bad k13 k1345) rfl rfl rfl (by decide +kernel) ⟨Nat.le_of_ble_eq_true rfl, Nat.le_of_ble_eq_true rfl⟩) ⟨fun a U g mk q => by obtain ⟨q0, q1, qP, qK⟩ := q; exact ⟨q0, q1, qP, va_K.moved (u := U) (U := U.calling g mk a) (Vm.Alike.refl U.vm) qK⟩, va_recv hK hP (ci := 10) (q0 := 0) rfl ((fw_get (by decide)).trans (by rw [mE_obj]; rfl)), fun U hU hW => ⟨rfl, by rw [hU], by rw [hU]; exact hP, va_K.moved hW.alike hK⟩⟩ rfl rfl hl.1 rfl (lv_room (Nat.le_of_ble_eq_true rfl)) dX10_tidied_22 ⟨Nat.le_of_ble_eq_true rfl, Nat.le_of_ble_eq_true rfl⟩) hS (fun q _ h => fA_le hS.1 q h) (fA_le hS.1) (fun r9 u9 t9 H1 locs ht9 hvm9 hw9 hB9 hz9 hk9 hS => ?_)
    obtain ⟨μ8, r10⟩ := u9
    obtain ⟨hP, -⟩ := hB9
    rw [ht9] at hP
    generalize H1 = H at hP hS ⊢
    obtain ⟨e9, hw9⟩ := hw9
    have e9 : r9 = iZ r10 := e9
    subst e9
    simp only at hP hw9
    have hμ8 := hw9; clear hw9
    have hfr := fr_trans hfr (badP_fr hμ8)
    have hrb := badP_r hμ8
    obtain rfl : r10 = 1 := by omega
    refine fz_if_eq (tgt := 30) (by decide) hx hb dX10_tidied_25 (by decide) (fun h9 => absurd h9 (by decide)) (fun c25_ => ?_)
    refine lv_iconst (v := iZ 0) hx hb dX10_tidied_28 rfl ?_
    exact W.iret (v := iZ (0)) hx hb hr (fun t9 ht9 hW9 => ⟨⟨iZ (0), (μ8, 0), rfl, ⟨rfl, (by
                dsimp only
                exact GE_PS hR ⟨hfr, by omega⟩)⟩, by rw [ht9]; exact hP, va_K.moved hW9.alike hK⟩, hS.F ht9⟩) hS.2.2 dX10_tidied_29

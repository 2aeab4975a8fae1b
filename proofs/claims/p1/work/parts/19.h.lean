set_option maxHeartbeats 4000000 in
set_option maxRecDepth 100000 in
theorem lc_toldX {p : Program} {l : Launch} {e : Env} {s : State} {m : MethodId} {below : List Frame} {meth : Method} {c : Code} {dC : Nat → ClassId} {dI : Nat → Nat → Nat} {A : Nat → Prop} {b : Nat} {xs : Nat → Int32} (C0 : lx_C p l s m c A b xs) {x0 w1 w6 w8 w15 w22 w26 w31 w35 w40 w48 w50 w52 y0 m1 m8 m11 m12 m13 m14 m15 m16 m17 m18 m19 m20 m21 m25 m26 m29 m30 m31 m32 m34 m35 m36 m37 m40 m41 m42 m43 m44 m45 m46 m47 m48 m49 m50 m51 m52 o0 : Nat} {d53 crf co : ClassId}  {v1 : Int32} (hs1 : xs (1 : Int32).toNatClampNeg = v1) (hq : ¬ (¬ v1 < 0 ∧ ¬ (9 : Int32) < v1))
    (hend : ∀ (H : Heap) (locs : List Loc) (ls : Array Slot), va_S A s.heap H locs → lv_has ls 7 [(4, .int 0), (0, .ref b)] → W p l e room_1 s m #[Value.ref b] below meth c H locs 6567 850872 (lw_Z below #[Value.ref b] s) (F0 m 2301 ls []))
    {H : Heap} {locs : List Loc} {ls : Array Slot} (hP : va_P (dC, dI) vwCl [(x0, .inr (9, [.ref w1, .ref w6, .int 0, .ref w8, .ref w15, .int 0, .int 0, .ref w22, .ref w26, .ref w31, .ref w35, .ref w40, .ref w48, .ref w50, .ref w52])), (w52, .inl (d53, 3, .inl (fun _ => 0))), (y0, .inr (10, [.int 0, .ref m1, .int 0, .int 0, .int 0, .int (-1), .int 0, .int 0, .ref m8, .int 0, .int 0, .ref m11, .ref m12, .ref m13, .ref m14, .ref m15, .ref m16, .ref m17, .ref m18, .ref m19, .ref m20, .ref m21, .int 0, .int 0, .int 0, .ref m25, .ref m26, .int 0, .int 0, .ref m29, .ref m30, .ref m31, .ref m32, .int 0, .ref m34, .ref m35, .ref m36, .ref m37, .int 0, .int 0, .ref m40, .ref m41, .ref m42, .ref m43, .ref m44, .ref m45, .ref m46, .ref m47, .ref m48, .ref m49, .ref m50, .ref m51, .ref m52])), (m1, .inl (crf, 3, .inl (fun _ => 0))), (o0, .inl (co, 1, .inr (.inl (fun _ => 0))))] H) (hD : va_D A [(x0, .inr (9, [.ref w1, .ref w6, .int 0, .ref w8, .ref w15, .int 0, .int 0, .ref w22, .ref w26, .ref w31, .ref w35, .ref w40, .ref w48, .ref w50, .ref w52])), (w52, .inl (d53, 3, .inl (fun _ => 0))), (y0, .inr (10, [.int 0, .ref m1, .int 0, .int 0, .int 0, .int (-1), .int 0, .int 0, .ref m8, .int 0, .int 0, .ref m11, .ref m12, .ref m13, .ref m14, .ref m15, .ref m16, .ref m17, .ref m18, .ref m19, .ref m20, .ref m21, .int 0, .int 0, .int 0, .ref m25, .ref m26, .int 0, .int 0, .ref m29, .ref m30, .ref m31, .ref m32, .int 0, .ref m34, .ref m35, .ref m36, .ref m37, .int 0, .int 0, .ref m40, .ref m41, .ref m42, .ref m43, .ref m44, .ref m45, .ref m46, .ref m47, .ref m48, .ref m49, .ref m50, .ref m51, .ref m52])), (m1, .inl (crf, 3, .inl (fun _ => 0))), (o0, .inl (co, 1, .inr (.inl (fun _ => 0))))]) (hK : va_K (dC, dI) vwCl [(d53, .int), (crf, .int), (co, .long)] s) (hS : va_S A s.heap H locs) (hl : lv_has ls 7 [(4, .int 0), (3, .ref o0), (2, .ref y0), (1, .ref x0), (0, .ref b)]) : W p l e room_1 s m #[Value.ref b] below meth c H locs 6559 850824 (lw_Z below #[Value.ref b] s) (F0 m 501 ls []) := by
  obtain ⟨hfl, hx, hb, hml, hown, hts, hX, hbl, hbA, hA, hEx, hNc⟩ := C0
  refine lv_aload_n hx hb dL_law_501 rfl (lv_at hl 3 rfl) ?_
  refine lv_aload_n hx hb dL_law_502 rfl (lv_at hl 4 rfl) ?_
  refine lv_iload hx hb dL_law_503 (lv_at hl 0 rfl) ?_
  refine lv_iconst (v := 1) hx hb dL_law_505 (by decide) ?_
  refine lv_iadd hx hb dL_law_506 ?_
  refine lv_topi (fun x9 ex9 => ?_)
  obtain rfl : x9 = 1 := ex9.trans (by decide +kernel)
  refine va_sld hx hb hX hbl hbA hS (by unfold vp_in; decide +kernel) dL_law_507 ?_
  refine lv_topi (fun x9 ex9 => ?_)
  obtain rfl : v1 = x9 := (ex9.trans hs1).symm
  refine lv_aload_n hx hb dL_law_508 rfl (lv_at hl 1 rfl) ?_
  have hPc := hP.sub (ws' := [(x0, .inr (9, [.ref w1, .ref w6, .int 0, .ref w8, .ref w15, .int 0, .int 0, .ref w22, .ref w26, .ref w31, .ref w35, .ref w40, .ref w48, .ref w50, .ref w52])), (w52, .inl (d53, 3, .inl (fun _ => 0))), (o0, .inl (co, 1, .inr (.inl (fun _ => 0))))]) [0, 1, 4] rfl
  have hDc := hD.sub (ws' := [(x0, .inr (9, [.ref w1, .ref w6, .int 0, .ref w8, .ref w15, .int 0, .int 0, .ref w22, .ref w26, .ref w31, .ref w35, .ref w40, .ref w48, .ref w50, .ref w52])), (w52, .inl (d53, 3, .inl (fun _ => 0))), (o0, .inl (co, 1, .inr (.inl (fun _ => 0))))]) [0, 1, 4] (by decide) rfl
  have hKc := hK.sub (tys' := [(d53, .int), (co, .long)]) [0, 2] rfl
  have hFc := va_free (wc := [(x0, .inr (9, [.ref w1, .ref w6, .int 0, .ref w8, .ref w15, .int 0, .int 0, .ref w22, .ref w26, .ref w31, .ref w35, .ref w40, .ref w48, .ref w50, .ref w52])), (w52, .inl (d53, 3, .inl (fun _ => 0))), (o0, .inl (co, 1, .inr (.inl (fun _ => 0))))]) hD hS hA [0, 1, 4] rfl
  refine va_calli (vx_runSW (hh := [(0, 9, 12, 13)]) (As := [.ref x0, .int v1, .ref o0]) (rest := []) ⟨hx, hb, hml, hown, hts⟩ (w_xtold l hfl dC dI H.size (x0) (w1) (w6) (w8) (w15) (w22) (w26) (w31) (w35) (w40) (w48) (w50) (w52) (d53) (o0) (co) (v1) ((x_toldX hq))) (vx_cwSW 3 hts (gW_G k849 k850 k0 k851) rfl rfl rfl (by decide +kernel) ⟨Nat.le_of_ble_eq_true rfl, Nat.le_of_ble_eq_true rfl⟩) ⟨fun a U g mk q => by obtain ⟨q0, q1, qP, qK, qD, qE⟩ := q; exact ⟨q0, q1, qP, va_K.moved (u := U) (U := U.calling g mk a) (Vm.Alike.refl U.vm) qK, qD, xX_call qE⟩, fun U hU hW => ⟨rfl, by rw [hU], by rw [hU]; exact hPc, va_K.moved hW.alike hKc, hDc.weaken (fun _ _ _ _ => trivial), xX_at hEx hS (fun q h => hFc q h) hU hW⟩⟩ rfl rfl hl.1 rfl (lv_room (Nat.le_of_ble_eq_true rfl)) dL_law_509 ⟨Nat.le_of_ble_eq_true rfl, Nat.le_of_ble_eq_true rfl⟩) hS (fun q _ h => hFc q h) hFc (fun r101 u t H1 locs ht hvm hw hB hz1 hk1 hS => ?_)
  obtain ⟨hP1, hK1, hD1⟩ := hB
  rw [ht] at hP1
  have hK1 := va_K.moved hvm.symm hK1
  try dsimp only at hw
  obtain ⟨hP, hD⟩ := va_join (wr := [(y0, .inr (10, [.int 0, .ref m1, .int 0, .int 0, .int 0, .int (-1), .int 0, .int 0, .ref m8, .int 0, .int 0, .ref m11, .ref m12, .ref m13, .ref m14, .ref m15, .ref m16, .ref m17, .ref m18, .ref m19, .ref m20, .ref m21, .int 0, .int 0, .int 0, .ref m25, .ref m26, .int 0, .int 0, .ref m29, .ref m30, .ref m31, .ref m32, .int 0, .ref m34, .ref m35, .ref m36, .ref m37, .int 0, .int 0, .ref m40, .ref m41, .ref m42, .ref m43, .ref m44, .ref m45, .ref m46, .ref m47, .ref m48, .ref m49, .ref m50, .ref m51, .ref m52])), (m1, .inl (crf, 3, .inl (fun _ => 0)))]) (w1 := []) hP hD [0, 1, 4] [2, 3] rfl rfl (by decide) (by decide) hk1 hFc hP1 hD1
  have hK := hK.app hK1
  generalize H1 = H at hP hS ⊢
  have hP : va_P (dC, dI) vwCl [(y0, .inr (10, [.int 0, .ref m1, .int 0, .int 0, .int 0, .int (-1), .int 0, .int 0, .ref m8, .int 0, .int 0, .ref m11, .ref m12, .ref m13, .ref m14, .ref m15, .ref m16, .ref m17, .ref m18, .ref m19, .ref m20, .ref m21, .int 0, .int 0, .int 0, .ref m25, .ref m26, .int 0, .int 0, .ref m29, .ref m30, .ref m31, .ref m32, .int 0, .ref m34, .ref m35, .ref m36, .ref m37, .int 0, .int 0, .ref m40, .ref m41, .ref m42, .ref m43, .ref m44, .ref m45, .ref m46, .ref m47, .ref m48, .ref m49, .ref m50, .ref m51, .ref m52])), (m1, .inl (crf, 3, .inl (fun _ => 0)))] H := hP
  have hD : va_D A [(y0, .inr (10, [.int 0, .ref m1, .int 0, .int 0, .int 0, .int (-1), .int 0, .int 0, .ref m8, .int 0, .int 0, .ref m11, .ref m12, .ref m13, .ref m14, .ref m15, .ref m16, .ref m17, .ref m18, .ref m19, .ref m20, .ref m21, .int 0, .int 0, .int 0, .ref m25, .ref m26, .int 0, .int 0, .ref m29, .ref m30, .ref m31, .ref m32, .int 0, .ref m34, .ref m35, .ref m36, .ref m37, .int 0, .int 0, .ref m40, .ref m41, .ref m42, .ref m43, .ref m44, .ref m45, .ref m46, .ref m47, .ref m48, .ref m49, .ref m50, .ref m51, .ref m52])), (m1, .inl (crf, 3, .inl (fun _ => 0)))] := hD
  have hK : va_K (dC, dI) vwCl [(d53, .int), (crf, .int), (co, .long)] s := hK
  refine W.widen (k := 6561) (n := 850836) (by omega) (by omega) ?_
  obtain rfl : r101 = 1 := hw
  refine lv_istore (lv' := [(5, .int 1), (4, .int 0), (3, .ref o0), (2, .ref y0), (1, .ref x0), (0, .ref b)]) hx hb dL_law_512 hl (by decide) rfl (fun ls hl => ?_)
  refine lv_aload_n hx hb dL_law_514 rfl (lv_at hl 3 rfl) ?_
  refine lv_aload_n hx hb dL_law_515 rfl (lv_at hl 5 rfl) ?_
  refine lv_iload hx hb dL_law_516 (lv_at hl 1 rfl) ?_
  refine lv_iconst (v := 1) hx hb dL_law_518 (by decide) ?_
  refine lv_iadd hx hb dL_law_519 ?_
  refine lv_topi (fun x9 ex9 => ?_)
  obtain rfl : x9 = 1 := ex9.trans (by decide +kernel)
  refine va_sld hx hb hX hbl hbA hS (by unfold vp_in; decide +kernel) dL_law_520 ?_
  refine lv_topi (fun x9 ex9 => ?_)
  obtain rfl : v1 = x9 := (ex9.trans hs1).symm
  have hPc := hP.sub (ws' := [(y0, .inr (10, [.int 0, .ref m1, .int 0, .int 0, .int 0, .int (-1), .int 0, .int 0, .ref m8, .int 0, .int 0, .ref m11, .ref m12, .ref m13, .ref m14, .ref m15, .ref m16, .ref m17, .ref m18, .ref m19, .ref m20, .ref m21, .int 0, .int 0, .int 0, .ref m25, .ref m26, .int 0, .int 0, .ref m29, .ref m30, .ref m31, .ref m32, .int 0, .ref m34, .ref m35, .ref m36, .ref m37, .int 0, .int 0, .ref m40, .ref m41, .ref m42, .ref m43, .ref m44, .ref m45, .ref m46, .ref m47, .ref m48, .ref m49, .ref m50, .ref m51, .ref m52])), (m1, .inl (crf, 3, .inl (fun _ => 0)))]) [0, 1] rfl
  have hDc := hD.sub (ws' := [(y0, .inr (10, [.int 0, .ref m1, .int 0, .int 0, .int 0, .int (-1), .int 0, .int 0, .ref m8, .int 0, .int 0, .ref m11, .ref m12, .ref m13, .ref m14, .ref m15, .ref m16, .ref m17, .ref m18, .ref m19, .ref m20, .ref m21, .int 0, .int 0, .int 0, .ref m25, .ref m26, .int 0, .int 0, .ref m29, .ref m30, .ref m31, .ref m32, .int 0, .ref m34, .ref m35, .ref m36, .ref m37, .int 0, .int 0, .ref m40, .ref m41, .ref m42, .ref m43, .ref m44, .ref m45, .ref m46, .ref m47, .ref m48, .ref m49, .ref m50, .ref m51, .ref m52])), (m1, .inl (crf, 3, .inl (fun _ => 0)))]) [0, 1] (by decide) rfl
  have hKc := hK.sub (tys' := [(crf, .int)]) [1] rfl
  have hFc := va_free (wc := [(y0, .inr (10, [.int 0, .ref m1, .int 0, .int 0, .int 0, .int (-1), .int 0, .int 0, .ref m8, .int 0, .int 0, .ref m11, .ref m12, .ref m13, .ref m14, .ref m15, .ref m16, .ref m17, .ref m18, .ref m19, .ref m20, .ref m21, .int 0, .int 0, .int 0, .ref m25, .ref m26, .int 0, .int 0, .ref m29, .ref m30, .ref m31, .ref m32, .int 0, .ref m34, .ref m35, .ref m36, .ref m37, .int 0, .int 0, .ref m40, .ref m41, .ref m42, .ref m43, .ref m44, .ref m45, .ref m46, .ref m47, .ref m48, .ref m49, .ref m50, .ref m51, .ref m52])), (m1, .inl (crf, 3, .inl (fun _ => 0)))]) hD hS hA [0, 1] rfl
  refine va_calli (va_runV (As := [.int v1]) (rest := []) ⟨hx, hb, hml, hown, hts⟩ (m_xtold l dC dI H.size (y0) (m1) (m8) (m11) (m12) (m13) (m14) (m15) (m16) (m17) (m18) (m19) (m20) (m21) (m25) (m26) (m29) (m30) (m31) (m32) (m34) (m35) (m36) (m37) (m40) (m41) (m42) (m43) (m44) (m45) (m46) (m47) (m48) (m49) (m50) (m51) (m52) (crf) (v1) (hq)) (cwV 1 hts (gV_G k1576 k1577 k1578 k13 k1579) rfl rfl rfl (by decide +kernel) ⟨Nat.le_of_ble_eq_true rfl, Nat.le_of_ble_eq_true rfl⟩) ⟨fun a U g mk q => by obtain ⟨q0, q1, qP, qK, qD⟩ := q; exact ⟨q0, q1, qP, va_K.moved (u := U) (U := U.calling g mk a) (Vm.Alike.refl U.vm) qK, qD⟩, va_recv hKc hPc (ci := 10) (q0 := 0) rfl rfl, fun U hU hW => ⟨rfl, by rw [hU], by rw [hU]; exact hPc, va_K.moved hW.alike hKc, hDc.weaken (fun _ _ _ _ => trivial)⟩⟩ rfl rfl hl.1 rfl (lv_room (Nat.le_of_ble_eq_true rfl)) dL_law_521 ⟨Nat.le_of_ble_eq_true rfl, Nat.le_of_ble_eq_true rfl⟩) hS (fun q _ h => hFc q h) hFc (fun r102 u t H1 locs ht hvm hw hB hz1 hk1 hS => ?_)
  obtain ⟨hP1, hK1, hD1⟩ := hB
  rw [ht] at hP1
  have hK1 := va_K.moved hvm.symm hK1
  try dsimp only at hw
  obtain ⟨hP, hD⟩ := va_join (wr := []) (w1 := [(y0, .inr (10, [.int 1, .ref m1, .int 0, .int 0, .int 0, .int (-1), .int 0, .int 0, .ref m8, .int 0, .int 0, .ref m11, .ref m12, .ref m13, .ref m14, .ref m15, .ref m16, .ref m17, .ref m18, .ref m19, .ref m20, .ref m21, .int 0, .int 0, .int 0, .ref m25, .ref m26, .int 0, .int 0, .ref m29, .ref m30, .ref m31, .ref m32, .int 0, .ref m34, .ref m35, .ref m36, .ref m37, .int 0, .int 0, .ref m40, .ref m41, .ref m42, .ref m43, .ref m44, .ref m45, .ref m46, .ref m47, .ref m48, .ref m49, .ref m50, .ref m51, .ref m52]))]) hP hD [0, 1] [] rfl rfl (by decide) (by decide) hk1 hFc hP1 hD1
  have hK := hK.app hK1
  generalize H1 = H at hP hS ⊢
  have hP : va_P (dC, dI) vwCl [(y0, .inr (10, [.int 1, .ref m1, .int 0, .int 0, .int 0, .int (-1), .int 0, .int 0, .ref m8, .int 0, .int 0, .ref m11, .ref m12, .ref m13, .ref m14, .ref m15, .ref m16, .ref m17, .ref m18, .ref m19, .ref m20, .ref m21, .int 0, .int 0, .int 0, .ref m25, .ref m26, .int 0, .int 0, .ref m29, .ref m30, .ref m31, .ref m32, .int 0, .ref m34, .ref m35, .ref m36, .ref m37, .int 0, .int 0, .ref m40, .ref m41, .ref m42, .ref m43, .ref m44, .ref m45, .ref m46, .ref m47, .ref m48, .ref m49, .ref m50, .ref m51, .ref m52]))] H := hP
  have hD : va_D A [(y0, .inr (10, [.int 1, .ref m1, .int 0, .int 0, .int 0, .int (-1), .int 0, .int 0, .ref m8, .int 0, .int 0, .ref m11, .ref m12, .ref m13, .ref m14, .ref m15, .ref m16, .ref m17, .ref m18, .ref m19, .ref m20, .ref m21, .int 0, .int 0, .int 0, .ref m25, .ref m26, .int 0, .int 0, .ref m29, .ref m30, .ref m31, .ref m32, .int 0, .ref m34, .ref m35, .ref m36, .ref m37, .int 0, .int 0, .ref m40, .ref m41, .ref m42, .ref m43, .ref m44, .ref m45, .ref m46, .ref m47, .ref m48, .ref m49, .ref m50, .ref m51, .ref m52]))] := hD
  have hK : va_K (dC, dI) vwCl [(d53, .int), (crf, .int), (co, .long)] s := hK
  refine W.widen (k := 6561) (n := 850836) (by omega) (by omega) ?_
  obtain rfl : r102 = 0 := hw
  refine lv_istore (lv' := [(6, .int 0), (5, .int 1), (4, .int 0), (3, .ref o0), (2, .ref y0), (1, .ref x0), (0, .ref b)]) hx hb dL_law_524 hl (by decide) rfl (fun ls hl => ?_)
  refine lv_aload_n hx hb dL_law_526 rfl (lv_at hl 4 rfl) ?_
  have hPc := hP.sub (ws' := [(y0, .inr (10, [.int 1, .ref m1, .int 0, .int 0, .int 0, .int (-1), .int 0, .int 0, .ref m8, .int 0, .int 0, .ref m11, .ref m12, .ref m13, .ref m14, .ref m15, .ref m16, .ref m17, .ref m18, .ref m19, .ref m20, .ref m21, .int 0, .int 0, .int 0, .ref m25, .ref m26, .int 0, .int 0, .ref m29, .ref m30, .ref m31, .ref m32, .int 0, .ref m34, .ref m35, .ref m36, .ref m37, .int 0, .int 0, .ref m40, .ref m41, .ref m42, .ref m43, .ref m44, .ref m45, .ref m46, .ref m47, .ref m48, .ref m49, .ref m50, .ref m51, .ref m52]))]) [0] rfl
  have hDc := hD.sub (ws' := [(y0, .inr (10, [.int 1, .ref m1, .int 0, .int 0, .int 0, .int (-1), .int 0, .int 0, .ref m8, .int 0, .int 0, .ref m11, .ref m12, .ref m13, .ref m14, .ref m15, .ref m16, .ref m17, .ref m18, .ref m19, .ref m20, .ref m21, .int 0, .int 0, .int 0, .ref m25, .ref m26, .int 0, .int 0, .ref m29, .ref m30, .ref m31, .ref m32, .int 0, .ref m34, .ref m35, .ref m36, .ref m37, .int 0, .int 0, .ref m40, .ref m41, .ref m42, .ref m43, .ref m44, .ref m45, .ref m46, .ref m47, .ref m48, .ref m49, .ref m50, .ref m51, .ref m52]))]) [0] (by decide) rfl
  have hKc := hK.sub (tys' := []) [] rfl
  have hFc := va_free (wc := [(y0, .inr (10, [.int 1, .ref m1, .int 0, .int 0, .int 0, .int (-1), .int 0, .int 0, .ref m8, .int 0, .int 0, .ref m11, .ref m12, .ref m13, .ref m14, .ref m15, .ref m16, .ref m17, .ref m18, .ref m19, .ref m20, .ref m21, .int 0, .int 0, .int 0, .ref m25, .ref m26, .int 0, .int 0, .ref m29, .ref m30, .ref m31, .ref m32, .int 0, .ref m34, .ref m35, .ref m36, .ref m37, .int 0, .int 0, .ref m40, .ref m41, .ref m42, .ref m43, .ref m44, .ref m45, .ref m46, .ref m47, .ref m48, .ref m49, .ref m50, .ref m51, .ref m52]))]) hD hS hA [0] rfl
  refine va_calli (va_runV (As := []) (rest := []) ⟨hx, hb, hml, hown, hts⟩ (m_thrown l dC dI H.size (y0) (1) (m1) (0) (0) (0) ((-1)) (0) (0) (m8) (0) (0) (m11) (m12) (m13) (m14) (m15) (m16) (m17) (m18) (m19) (m20) (m21) (0) (0) (0) (m25) (m26) (0) (0) (m29) (m30) (m31) (m32) (0) (m34) (m35) (m36) (m37) (0) (0) (m40) (m41) (m42) (m43) (m44) (m45) (m46) (m47) (m48) (m49) (m50) (m51) (m52)) (cwV 0 hts (gV_G k1327 k1328 k1329 k13 k1330) rfl rfl rfl (by decide +kernel) ⟨Nat.le_of_ble_eq_true rfl, Nat.le_of_ble_eq_true rfl⟩) ⟨fun a U g mk q => by obtain ⟨q0, q1, qP, qK, qD⟩ := q; exact ⟨q0, q1, qP, va_K.moved (u := U) (U := U.calling g mk a) (Vm.Alike.refl U.vm) qK, qD⟩, va_recv hKc hPc (ci := 10) (q0 := 0) rfl rfl, fun U hU hW => ⟨rfl, by rw [hU], by rw [hU]; exact hPc, va_K.moved hW.alike hKc, hDc.weaken (fun _ _ _ _ => trivial)⟩⟩ rfl rfl hl.1 rfl (lv_room (Nat.le_of_ble_eq_true rfl)) dL_law_527 ⟨Nat.le_of_ble_eq_true rfl, Nat.le_of_ble_eq_true rfl⟩) hS (fun q _ h => hFc q h) hFc (fun r103 u t H1 locs ht hvm hw hB hz1 hk1 hS => ?_)
  obtain ⟨hP1, hK1, hD1⟩ := hB
  rw [ht] at hP1
  have hK1 := va_K.moved hvm.symm hK1
  try dsimp only at hw
  obtain ⟨hP, hD⟩ := va_join (wr := []) (w1 := []) hP hD [0] [] rfl rfl (by decide) (by decide) hk1 hFc hP1 hD1
  have hK := hK.app hK1
  generalize H1 = H at hP hS ⊢
  have hP : va_P (dC, dI) vwCl [] H := hP
  have hD : va_D A [] := hD
  have hK : va_K (dC, dI) vwCl [(d53, .int), (crf, .int), (co, .long)] s := hK
  refine W.widen (k := 6561) (n := 850836) (by omega) (by omega) ?_
  obtain rfl : r103 = 1 := hw
  refine lv_iload hx hb dL_law_530 (lv_at hl 1 rfl) ?_
  refine lv_icmp_eq (tgt := 537) hx hb dL_law_532 (by decide) (fun _ => ?_) (fun c9 => absurd (by decide +kernel) c9)
  refine lv_iload hx hb dL_law_537 (lv_at hl 1 rfl) ?_
  refine lv_if_ne (tgt := 554) hx hb dL_law_539 (by decide) (fun _ => ?_) (fun c9 => absurd c9 (by decide +kernel))
  refine lv_goto (tgt := 2301) hx hb dL_law_554 (by decide) ?_
  refine W.widen (k := 6567) (n := 850872) (by omega) (by omega) ?_
  exact hend H locs ls hS (lv_sub hl [2, 6] rfl)
set_option maxHeartbeats 4000000 in
set_option maxRecDepth 100000 in
theorem lc_firm0 {p : Program} {l : Launch} {e : Env} {s : State} {m : MethodId} {below : List Frame} {meth : Method} {c : Code} {dC : Nat → ClassId} {dI : Nat → Nat → Nat} {A : Nat → Prop} {b : Nat} {xs : Nat → Int32} (C0 : lx_C p l s m c A b xs) {x0 w1 w6 w8 w15 w22 w26 w31 w35 w40 w48 w50 w52 w9 w10 w11 w12 w13 y0 m1 m8 m11 m12 m13 m14 m15 m16 m17 m18 m19 m20 m21 m25 m26 m29 m30 m31 m32 m34 m35 m36 m37 m40 m41 m42 m43 m44 m45 m46 m47 m48 m49 m50 m51 m52 o0 : Nat} {crf cnd co : ClassId}   (hs1 : xs (1 : Int32).toNatClampNeg = 0)
    (hend : ∀ (H : Heap) (locs : List Loc) (ls : Array Slot), va_S A s.heap H locs → lv_has ls 7 [(4, .int 0), (0, .ref b)] → W p l e room_1 s m #[Value.ref b] below meth c H locs 6567 850872 (lw_Z below #[Value.ref b] s) (F0 m 2301 ls []))
    {H : Heap} {locs : List Loc} {ls : Array Slot} (hP : va_P (dC, dI) vwCl [(x0, .inr (9, [.ref w1, .ref w6, .int 0, .ref w8, .ref w15, .int 0, .int 0, .ref w22, .ref w26, .ref w31, .ref w35, .ref w40, .ref w48, .ref w50, .ref w52])), (w8, .inr (4, [.ref w9, .ref w10, .ref w11, .ref w12, .ref w13, .int 0, .int 0, .int 0])), (y0, .inr (10, [.int 0, .ref m1, .int 0, .int 0, .int 0, .int (-1), .int 0, .int 0, .ref m8, .int 0, .int 0, .ref m11, .ref m12, .ref m13, .ref m14, .ref m15, .ref m16, .ref m17, .ref m18, .ref m19, .ref m20, .ref m21, .int 0, .int 0, .int 0, .ref m25, .ref m26, .int 0, .int 0, .ref m29, .ref m30, .ref m31, .ref m32, .int 0, .ref m34, .ref m35, .ref m36, .ref m37, .int 0, .int 0, .ref m40, .ref m41, .ref m42, .ref m43, .ref m44, .ref m45, .ref m46, .ref m47, .ref m48, .ref m49, .ref m50, .ref m51, .ref m52])), (m1, .inl (crf, 3, .inl (fun _ => 0))), (m21, .inl (cnd, 70, .inl (fun _ => 0))), (o0, .inl (co, 1, .inr (.inl (fun _ => 0))))] H) (hD : va_D A [(x0, .inr (9, [.ref w1, .ref w6, .int 0, .ref w8, .ref w15, .int 0, .int 0, .ref w22, .ref w26, .ref w31, .ref w35, .ref w40, .ref w48, .ref w50, .ref w52])), (w8, .inr (4, [.ref w9, .ref w10, .ref w11, .ref w12, .ref w13, .int 0, .int 0, .int 0])), (y0, .inr (10, [.int 0, .ref m1, .int 0, .int 0, .int 0, .int (-1), .int 0, .int 0, .ref m8, .int 0, .int 0, .ref m11, .ref m12, .ref m13, .ref m14, .ref m15, .ref m16, .ref m17, .ref m18, .ref m19, .ref m20, .ref m21, .int 0, .int 0, .int 0, .ref m25, .ref m26, .int 0, .int 0, .ref m29, .ref m30, .ref m31, .ref m32, .int 0, .ref m34, .ref m35, .ref m36, .ref m37, .int 0, .int 0, .ref m40, .ref m41, .ref m42, .ref m43, .ref m44, .ref m45, .ref m46, .ref m47, .ref m48, .ref m49, .ref m50, .ref m51, .ref m52])), (m1, .inl (crf, 3, .inl (fun _ => 0))), (m21, .inl (cnd, 70, .inl (fun _ => 0))), (o0, .inl (co, 1, .inr (.inl (fun _ => 0))))]) (hK : va_K (dC, dI) vwCl [(crf, .int), (cnd, .int), (co, .long)] s) (hS : va_S A s.heap H locs) (hl : lv_has ls 7 [(4, .int 0), (3, .ref o0), (2, .ref y0), (1, .ref x0), (0, .ref b)]) : W p l e room_1 s m #[Value.ref b] below meth c H locs 6559 850824 (lw_Z below #[Value.ref b] s) (F0 m 1685 ls []) := by
  obtain ⟨hfl, hx, hb, hml, hown, hts, hX, hbl, hbA, hA, hEx, hNc⟩ := C0
  refine lv_aload_n hx hb dL_law_1685 rfl (lv_at hl 3 rfl) ?_
  refine lv_aload_n hx hb dL_law_1686 rfl (lv_at hl 4 rfl) ?_
  refine lv_iload hx hb dL_law_1687 (lv_at hl 0 rfl) ?_
  refine lv_iconst (v := 1) hx hb dL_law_1689 (by decide) ?_
  refine lv_iadd hx hb dL_law_1690 ?_
  refine lv_topi (fun x9 ex9 => ?_)
  obtain rfl : x9 = 1 := ex9.trans (by decide +kernel)
  refine va_sld hx hb hX hbl hbA hS (by unfold vp_in; decide +kernel) dL_law_1691 ?_
  refine lv_topi (fun x9 ex9 => ?_)
  obtain rfl : x9 = 0 := ex9.trans hs1
  refine lv_aload_n hx hb dL_law_1692 rfl (lv_at hl 1 rfl) ?_
  have hPc := hP.sub (ws' := [(x0, .inr (9, [.ref w1, .ref w6, .int 0, .ref w8, .ref w15, .int 0, .int 0, .ref w22, .ref w26, .ref w31, .ref w35, .ref w40, .ref w48, .ref w50, .ref w52])), (w8, .inr (4, [.ref w9, .ref w10, .ref w11, .ref w12, .ref w13, .int 0, .int 0, .int 0])), (o0, .inl (co, 1, .inr (.inl (fun _ => 0))))]) [0, 1, 5] rfl
  have hDc := hD.sub (ws' := [(x0, .inr (9, [.ref w1, .ref w6, .int 0, .ref w8, .ref w15, .int 0, .int 0, .ref w22, .ref w26, .ref w31, .ref w35, .ref w40, .ref w48, .ref w50, .ref w52])), (w8, .inr (4, [.ref w9, .ref w10, .ref w11, .ref w12, .ref w13, .int 0, .int 0, .int 0])), (o0, .inl (co, 1, .inr (.inl (fun _ => 0))))]) [0, 1, 5] (by decide) rfl
  have hKc := hK.sub (tys' := [(co, .long)]) [2] rfl
  have hFc := va_free (wc := [(x0, .inr (9, [.ref w1, .ref w6, .int 0, .ref w8, .ref w15, .int 0, .int 0, .ref w22, .ref w26, .ref w31, .ref w35, .ref w40, .ref w48, .ref w50, .ref w52])), (w8, .inr (4, [.ref w9, .ref w10, .ref w11, .ref w12, .ref w13, .int 0, .int 0, .int 0])), (o0, .inl (co, 1, .inr (.inl (fun _ => 0))))]) hD hS hA [0, 1, 5] rfl
  refine va_calli (vx_runSW (hh := [(0, 9, 12, 13)]) (As := [.ref x0, .int 0, .ref o0]) (rest := []) ⟨hx, hb, hml, hown, hts⟩ (w_firm l hfl dC dI H.size (x0) (w1) (w6) (w8) (w15) (w22) (w26) (w31) (w35) (w40) (w48) (w50) (w52) (w9) (w10) (w11) (w12) (w13) (o0) (co) (0) (⟨by decide +kernel, by decide +kernel⟩)) (vx_cwSW 3 hts (gW_G k1085 k1086 k0 k1087) rfl rfl rfl (by decide +kernel) ⟨Nat.le_of_ble_eq_true rfl, Nat.le_of_ble_eq_true rfl⟩) ⟨fun a U g mk q => by obtain ⟨q0, q1, qP, qK, qD, qE⟩ := q; exact ⟨q0, q1, qP, va_K.moved (u := U) (U := U.calling g mk a) (Vm.Alike.refl U.vm) qK, qD, xX_call qE⟩, fun U hU hW => ⟨rfl, by rw [hU], by rw [hU]; exact hPc, va_K.moved hW.alike hKc, hDc.weaken (fun _ _ _ _ => trivial), xX_at hEx hS (fun q h => hFc q h) hU hW⟩⟩ rfl rfl hl.1 rfl (lv_room (Nat.le_of_ble_eq_true rfl)) dL_law_1693 ⟨Nat.le_of_ble_eq_true rfl, Nat.le_of_ble_eq_true rfl⟩) hS (fun q _ h => hFc q h) hFc (fun r101 u t H1 locs ht hvm hw hB hz1 hk1 hS => ?_)
  obtain ⟨hP1, hK1, hD1⟩ := hB
  rw [ht] at hP1
  have hK1 := va_K.moved hvm.symm hK1
  try dsimp only at hw
  obtain ⟨hP, hD⟩ := va_join (wr := [(y0, .inr (10, [.int 0, .ref m1, .int 0, .int 0, .int 0, .int (-1), .int 0, .int 0, .ref m8, .int 0, .int 0, .ref m11, .ref m12, .ref m13, .ref m14, .ref m15, .ref m16, .ref m17, .ref m18, .ref m19, .ref m20, .ref m21, .int 0, .int 0, .int 0, .ref m25, .ref m26, .int 0, .int 0, .ref m29, .ref m30, .ref m31, .ref m32, .int 0, .ref m34, .ref m35, .ref m36, .ref m37, .int 0, .int 0, .ref m40, .ref m41, .ref m42, .ref m43, .ref m44, .ref m45, .ref m46, .ref m47, .ref m48, .ref m49, .ref m50, .ref m51, .ref m52])), (m1, .inl (crf, 3, .inl (fun _ => 0))), (m21, .inl (cnd, 70, .inl (fun _ => 0)))]) (w1 := [(o0, .inl (co, 1, .inr (.inl (vp_updL (fun _ => 0) (0 : Int32).toNatClampNeg (0)))))]) hP hD [0, 1, 5] [2, 3, 4] rfl rfl (by decide) (by decide) hk1 hFc hP1 hD1
  have hK := hK.app hK1
  generalize H1 = H at hP hS ⊢
  have hP : va_P (dC, dI) vwCl [(y0, .inr (10, [.int 0, .ref m1, .int 0, .int 0, .int 0, .int (-1), .int 0, .int 0, .ref m8, .int 0, .int 0, .ref m11, .ref m12, .ref m13, .ref m14, .ref m15, .ref m16, .ref m17, .ref m18, .ref m19, .ref m20, .ref m21, .int 0, .int 0, .int 0, .ref m25, .ref m26, .int 0, .int 0, .ref m29, .ref m30, .ref m31, .ref m32, .int 0, .ref m34, .ref m35, .ref m36, .ref m37, .int 0, .int 0, .ref m40, .ref m41, .ref m42, .ref m43, .ref m44, .ref m45, .ref m46, .ref m47, .ref m48, .ref m49, .ref m50, .ref m51, .ref m52])), (m1, .inl (crf, 3, .inl (fun _ => 0))), (m21, .inl (cnd, 70, .inl (fun _ => 0))), (o0, .inl (co, 1, .inr (.inl (vp_updL (fun _ => 0) (0 : Int32).toNatClampNeg (0)))))] H := hP
  have hD : va_D A [(y0, .inr (10, [.int 0, .ref m1, .int 0, .int 0, .int 0, .int (-1), .int 0, .int 0, .ref m8, .int 0, .int 0, .ref m11, .ref m12, .ref m13, .ref m14, .ref m15, .ref m16, .ref m17, .ref m18, .ref m19, .ref m20, .ref m21, .int 0, .int 0, .int 0, .ref m25, .ref m26, .int 0, .int 0, .ref m29, .ref m30, .ref m31, .ref m32, .int 0, .ref m34, .ref m35, .ref m36, .ref m37, .int 0, .int 0, .ref m40, .ref m41, .ref m42, .ref m43, .ref m44, .ref m45, .ref m46, .ref m47, .ref m48, .ref m49, .ref m50, .ref m51, .ref m52])), (m1, .inl (crf, 3, .inl (fun _ => 0))), (m21, .inl (cnd, 70, .inl (fun _ => 0))), (o0, .inl (co, 1, .inr (.inl (vp_updL (fun _ => 0) (0 : Int32).toNatClampNeg (0)))))] := hD
  have hK : va_K (dC, dI) vwCl [(crf, .int), (cnd, .int), (co, .long), (co, .long)] s := hK
  refine W.widen (k := 6559) (n := 850824) (by omega) (by omega) ?_
  obtain rfl : r101 = 0 := hw
  refine lv_istore (lv' := [(5, .int 0), (4, .int 0), (3, .ref o0), (2, .ref y0), (1, .ref x0), (0, .ref b)]) hx hb dL_law_1696 hl (by decide) rfl (fun ls hl => ?_)
  refine lv_aload_n hx hb dL_law_1698 rfl (lv_at hl 3 rfl) ?_
  refine lv_aload_n hx hb dL_law_1699 rfl (lv_at hl 5 rfl) ?_
  refine lv_iload hx hb dL_law_1700 (lv_at hl 1 rfl) ?_
  refine lv_iconst (v := 1) hx hb dL_law_1702 (by decide) ?_
  refine lv_iadd hx hb dL_law_1703 ?_
  refine lv_topi (fun x9 ex9 => ?_)
  obtain rfl : x9 = 1 := ex9.trans (by decide +kernel)
  refine va_sld hx hb hX hbl hbA hS (by unfold vp_in; decide +kernel) dL_law_1704 ?_
  refine lv_topi (fun x9 ex9 => ?_)
  obtain rfl : x9 = 0 := ex9.trans hs1
  have hPc := hP.sub (ws' := [(y0, .inr (10, [.int 0, .ref m1, .int 0, .int 0, .int 0, .int (-1), .int 0, .int 0, .ref m8, .int 0, .int 0, .ref m11, .ref m12, .ref m13, .ref m14, .ref m15, .ref m16, .ref m17, .ref m18, .ref m19, .ref m20, .ref m21, .int 0, .int 0, .int 0, .ref m25, .ref m26, .int 0, .int 0, .ref m29, .ref m30, .ref m31, .ref m32, .int 0, .ref m34, .ref m35, .ref m36, .ref m37, .int 0, .int 0, .ref m40, .ref m41, .ref m42, .ref m43, .ref m44, .ref m45, .ref m46, .ref m47, .ref m48, .ref m49, .ref m50, .ref m51, .ref m52])), (m1, .inl (crf, 3, .inl (fun _ => 0))), (m21, .inl (cnd, 70, .inl (fun _ => 0)))]) [0, 1, 2] rfl
  have hDc := hD.sub (ws' := [(y0, .inr (10, [.int 0, .ref m1, .int 0, .int 0, .int 0, .int (-1), .int 0, .int 0, .ref m8, .int 0, .int 0, .ref m11, .ref m12, .ref m13, .ref m14, .ref m15, .ref m16, .ref m17, .ref m18, .ref m19, .ref m20, .ref m21, .int 0, .int 0, .int 0, .ref m25, .ref m26, .int 0, .int 0, .ref m29, .ref m30, .ref m31, .ref m32, .int 0, .ref m34, .ref m35, .ref m36, .ref m37, .int 0, .int 0, .ref m40, .ref m41, .ref m42, .ref m43, .ref m44, .ref m45, .ref m46, .ref m47, .ref m48, .ref m49, .ref m50, .ref m51, .ref m52])), (m1, .inl (crf, 3, .inl (fun _ => 0))), (m21, .inl (cnd, 70, .inl (fun _ => 0)))]) [0, 1, 2] (by decide) rfl
  have hKc := hK.sub (tys' := [(crf, .int), (cnd, .int)]) [0, 1] rfl
  have hFc := va_free (wc := [(y0, .inr (10, [.int 0, .ref m1, .int 0, .int 0, .int 0, .int (-1), .int 0, .int 0, .ref m8, .int 0, .int 0, .ref m11, .ref m12, .ref m13, .ref m14, .ref m15, .ref m16, .ref m17, .ref m18, .ref m19, .ref m20, .ref m21, .int 0, .int 0, .int 0, .ref m25, .ref m26, .int 0, .int 0, .ref m29, .ref m30, .ref m31, .ref m32, .int 0, .ref m34, .ref m35, .ref m36, .ref m37, .int 0, .int 0, .ref m40, .ref m41, .ref m42, .ref m43, .ref m44, .ref m45, .ref m46, .ref m47, .ref m48, .ref m49, .ref m50, .ref m51, .ref m52])), (m1, .inl (crf, 3, .inl (fun _ => 0))), (m21, .inl (cnd, 70, .inl (fun _ => 0)))]) hD hS hA [0, 1, 2] rfl
  refine va_calli (va_runV (As := [.int 0]) (rest := []) ⟨hx, hb, hml, hown, hts⟩ (m_firm0 l dC dI H.size (y0) (m1) (m8) (m11) (m12) (m13) (m14) (m15) (m16) (m17) (m18) (m19) (m20) (m21) (m25) (m26) (m29) (m30) (m31) (m32) (m34) (m35) (m36) (m37) (m40) (m41) (m42) (m43) (m44) (m45) (m46) (m47) (m48) (m49) (m50) (m51) (m52) (crf) (cnd)) (cwV 1 hts (gV_G k1731 k1732 k1733 k13 k1734) rfl rfl rfl (by decide +kernel) ⟨Nat.le_of_ble_eq_true rfl, Nat.le_of_ble_eq_true rfl⟩) ⟨fun a U g mk q => by obtain ⟨q0, q1, qP, qK, qD⟩ := q; exact ⟨q0, q1, qP, va_K.moved (u := U) (U := U.calling g mk a) (Vm.Alike.refl U.vm) qK, qD⟩, va_recv hKc hPc (ci := 10) (q0 := 0) rfl rfl, fun U hU hW => ⟨rfl, by rw [hU], by rw [hU]; exact hPc, va_K.moved hW.alike hKc, hDc.weaken (fun _ _ _ _ => trivial)⟩⟩ rfl rfl hl.1 rfl (lv_room (Nat.le_of_ble_eq_true rfl)) dL_law_1705 ⟨Nat.le_of_ble_eq_true rfl, Nat.le_of_ble_eq_true rfl⟩) hS (fun q _ h => hFc q h) hFc (fun r102 u t H1 locs ht hvm hw hB hz1 hk1 hS => ?_)
  obtain ⟨hP1, hK1, hD1⟩ := hB
  rw [ht] at hP1
  have hK1 := va_K.moved hvm.symm hK1
  try dsimp only at hw
  obtain ⟨hP, hD⟩ := va_join (wr := [(o0, .inl (co, 1, .inr (.inl (vp_updL (fun _ => 0) (0 : Int32).toNatClampNeg (0)))))]) (w1 := [(y0, .inr (10, [.int 0, .ref m1, .int 0, .int 0, .int 0, .int (-1), .int 0, .int 0, .ref m8, .int 0, .int 0, .ref m11, .ref m12, .ref m13, .ref m14, .ref m15, .ref m16, .ref m17, .ref m18, .ref m19, .ref m20, .ref m21, .int 0, .int 0, .int 0, .ref m25, .ref m26, .int 0, .int 0, .ref m29, .ref m30, .ref m31, .ref m32, .int 0, .ref m34, .ref m35, .ref m36, .ref m37, .int 0, .int 0, .ref m40, .ref m41, .ref m42, .ref m43, .ref m44, .ref m45, .ref m46, .ref m47, .ref m48, .ref m49, .ref m50, .ref m51, .ref m52]))]) hP hD [0, 1, 2] [3] rfl rfl (by decide) (by decide) hk1 hFc hP1 hD1
  have hK := hK.app hK1
  generalize H1 = H at hP hS ⊢
  have hP : va_P (dC, dI) vwCl [(o0, .inl (co, 1, .inr (.inl (vp_updL (fun _ => 0) (0 : Int32).toNatClampNeg (0))))), (y0, .inr (10, [.int 0, .ref m1, .int 0, .int 0, .int 0, .int (-1), .int 0, .int 0, .ref m8, .int 0, .int 0, .ref m11, .ref m12, .ref m13, .ref m14, .ref m15, .ref m16, .ref m17, .ref m18, .ref m19, .ref m20, .ref m21, .int 0, .int 0, .int 0, .ref m25, .ref m26, .int 0, .int 0, .ref m29, .ref m30, .ref m31, .ref m32, .int 0, .ref m34, .ref m35, .ref m36, .ref m37, .int 0, .int 0, .ref m40, .ref m41, .ref m42, .ref m43, .ref m44, .ref m45, .ref m46, .ref m47, .ref m48, .ref m49, .ref m50, .ref m51, .ref m52]))] H := hP
  have hD : va_D A [(o0, .inl (co, 1, .inr (.inl (vp_updL (fun _ => 0) (0 : Int32).toNatClampNeg (0))))), (y0, .inr (10, [.int 0, .ref m1, .int 0, .int 0, .int 0, .int (-1), .int 0, .int 0, .ref m8, .int 0, .int 0, .ref m11, .ref m12, .ref m13, .ref m14, .ref m15, .ref m16, .ref m17, .ref m18, .ref m19, .ref m20, .ref m21, .int 0, .int 0, .int 0, .ref m25, .ref m26, .int 0, .int 0, .ref m29, .ref m30, .ref m31, .ref m32, .int 0, .ref m34, .ref m35, .ref m36, .ref m37, .int 0, .int 0, .ref m40, .ref m41, .ref m42, .ref m43, .ref m44, .ref m45, .ref m46, .ref m47, .ref m48, .ref m49, .ref m50, .ref m51, .ref m52]))] := hD
  have hK : va_K (dC, dI) vwCl [(crf, .int), (cnd, .int), (co, .long), (co, .long)] s := hK
  refine W.widen (k := 6559) (n := 850824) (by omega) (by omega) ?_
  obtain rfl : r102 = 0 := hw
  refine lv_istore (lv' := [(6, .int 0), (5, .int 0), (4, .int 0), (3, .ref o0), (2, .ref y0), (1, .ref x0), (0, .ref b)]) hx hb dL_law_1708 hl (by decide) rfl (fun ls hl => ?_)
  refine lv_aload_n hx hb dL_law_1710 rfl (lv_at hl 4 rfl) ?_
  have hPc := hP.sub (ws' := [(y0, .inr (10, [.int 0, .ref m1, .int 0, .int 0, .int 0, .int (-1), .int 0, .int 0, .ref m8, .int 0, .int 0, .ref m11, .ref m12, .ref m13, .ref m14, .ref m15, .ref m16, .ref m17, .ref m18, .ref m19, .ref m20, .ref m21, .int 0, .int 0, .int 0, .ref m25, .ref m26, .int 0, .int 0, .ref m29, .ref m30, .ref m31, .ref m32, .int 0, .ref m34, .ref m35, .ref m36, .ref m37, .int 0, .int 0, .ref m40, .ref m41, .ref m42, .ref m43, .ref m44, .ref m45, .ref m46, .ref m47, .ref m48, .ref m49, .ref m50, .ref m51, .ref m52]))]) [1] rfl
  have hDc := hD.sub (ws' := [(y0, .inr (10, [.int 0, .ref m1, .int 0, .int 0, .int 0, .int (-1), .int 0, .int 0, .ref m8, .int 0, .int 0, .ref m11, .ref m12, .ref m13, .ref m14, .ref m15, .ref m16, .ref m17, .ref m18, .ref m19, .ref m20, .ref m21, .int 0, .int 0, .int 0, .ref m25, .ref m26, .int 0, .int 0, .ref m29, .ref m30, .ref m31, .ref m32, .int 0, .ref m34, .ref m35, .ref m36, .ref m37, .int 0, .int 0, .ref m40, .ref m41, .ref m42, .ref m43, .ref m44, .ref m45, .ref m46, .ref m47, .ref m48, .ref m49, .ref m50, .ref m51, .ref m52]))]) [1] (by decide) rfl
  have hKc := hK.sub (tys' := []) [] rfl
  have hFc := va_free (wc := [(y0, .inr (10, [.int 0, .ref m1, .int 0, .int 0, .int 0, .int (-1), .int 0, .int 0, .ref m8, .int 0, .int 0, .ref m11, .ref m12, .ref m13, .ref m14, .ref m15, .ref m16, .ref m17, .ref m18, .ref m19, .ref m20, .ref m21, .int 0, .int 0, .int 0, .ref m25, .ref m26, .int 0, .int 0, .ref m29, .ref m30, .ref m31, .ref m32, .int 0, .ref m34, .ref m35, .ref m36, .ref m37, .int 0, .int 0, .ref m40, .ref m41, .ref m42, .ref m43, .ref m44, .ref m45, .ref m46, .ref m47, .ref m48, .ref m49, .ref m50, .ref m51, .ref m52]))]) hD hS hA [1] rfl
  refine va_calli (va_runV (As := []) (rest := []) ⟨hx, hb, hml, hown, hts⟩ (m_thrown l dC dI H.size (y0) (0) (m1) (0) (0) (0) ((-1)) (0) (0) (m8) (0) (0) (m11) (m12) (m13) (m14) (m15) (m16) (m17) (m18) (m19) (m20) (m21) (0) (0) (0) (m25) (m26) (0) (0) (m29) (m30) (m31) (m32) (0) (m34) (m35) (m36) (m37) (0) (0) (m40) (m41) (m42) (m43) (m44) (m45) (m46) (m47) (m48) (m49) (m50) (m51) (m52)) (cwV 0 hts (gV_G k1327 k1328 k1329 k13 k1330) rfl rfl rfl (by decide +kernel) ⟨Nat.le_of_ble_eq_true rfl, Nat.le_of_ble_eq_true rfl⟩) ⟨fun a U g mk q => by obtain ⟨q0, q1, qP, qK, qD⟩ := q; exact ⟨q0, q1, qP, va_K.moved (u := U) (U := U.calling g mk a) (Vm.Alike.refl U.vm) qK, qD⟩, va_recv hKc hPc (ci := 10) (q0 := 0) rfl rfl, fun U hU hW => ⟨rfl, by rw [hU], by rw [hU]; exact hPc, va_K.moved hW.alike hKc, hDc.weaken (fun _ _ _ _ => trivial)⟩⟩ rfl rfl hl.1 rfl (lv_room (Nat.le_of_ble_eq_true rfl)) dL_law_1711 ⟨Nat.le_of_ble_eq_true rfl, Nat.le_of_ble_eq_true rfl⟩) hS (fun q _ h => hFc q h) hFc (fun r103 u t H1 locs ht hvm hw hB hz1 hk1 hS => ?_)
  obtain ⟨hP1, hK1, hD1⟩ := hB
  rw [ht] at hP1
  have hK1 := va_K.moved hvm.symm hK1
  try dsimp only at hw
  obtain ⟨hP, hD⟩ := va_join (wr := [(o0, .inl (co, 1, .inr (.inl (vp_updL (fun _ => 0) (0 : Int32).toNatClampNeg (0)))))]) (w1 := []) hP hD [1] [0] rfl rfl (by decide) (by decide) hk1 hFc hP1 hD1
  have hK := hK.app hK1
  generalize H1 = H at hP hS ⊢
  have hP : va_P (dC, dI) vwCl [(o0, .inl (co, 1, .inr (.inl (vp_updL (fun _ => 0) (0 : Int32).toNatClampNeg (0)))))] H := hP
  have hD : va_D A [(o0, .inl (co, 1, .inr (.inl (vp_updL (fun _ => 0) (0 : Int32).toNatClampNeg (0)))))] := hD
  have hK : va_K (dC, dI) vwCl [(crf, .int), (cnd, .int), (co, .long), (co, .long)] s := hK
  refine W.widen (k := 6559) (n := 850824) (by omega) (by omega) ?_
  obtain rfl : r103 = 0 := hw
  refine lv_iload hx hb dL_law_1714 (lv_at hl 1 rfl) ?_
  refine lv_icmp_eq (tgt := 1721) hx hb dL_law_1716 (by decide) (fun _ => ?_) (fun c9 => absurd (by decide +kernel) c9)
  refine lv_iload hx hb dL_law_1721 (lv_at hl 1 rfl) ?_
  refine lv_if_ne (tgt := 1738) hx hb dL_law_1723 (by decide) (fun c9 => absurd (by decide +kernel) c9) (fun _ => ?_)
  refine lv_aload_n hx hb dL_law_1726 rfl (lv_at hl 3 rfl) ?_
  refine lv_iconst (v := 0) hx hb dL_law_1727 (by decide) ?_
  refine va_lald hx hb hK hP 0 2 rfl rfl (by unfold vp_in; decide +kernel) dL_law_1728 ?_
  refine lv_topl (fun y9 ey9 => ?_)
  obtain rfl : y9 = 0 := ey9.trans pk_uLs
  refine lv_iload hx hb dL_law_1729 (lv_at hl 0 rfl) ?_
  refine lv_i2l (v := 0) hx hb dL_law_1731 (by decide +kernel) ?_
  refine x_lcmp0 hx hb dL_law_1732 ?_
  refine lv_if_eq (tgt := 1738) hx hb dL_law_1733 (by decide) (fun _ => ?_) (fun c9 => absurd (by decide +kernel) c9)
  refine lv_goto (tgt := 2301) hx hb dL_law_1738 (by decide) ?_
  refine W.widen (k := 6567) (n := 850872) (by omega) (by omega) ?_
  exact hend H locs ls hS (lv_sub hl [2, 6] rfl)
set_option maxHeartbeats 4000000 in
set_option maxRecDepth 100000 in
theorem lc_firm1 {p : Program} {l : Launch} {e : Env} {s : State} {m : MethodId} {below : List Frame} {meth : Method} {c : Code} {dC : Nat → ClassId} {dI : Nat → Nat → Nat} {A : Nat → Prop} {b : Nat} {xs : Nat → Int32} (C0 : lx_C p l s m c A b xs) {x0 w1 w6 w8 w15 w22 w26 w31 w35 w40 w48 w50 w52 w9 w10 w11 w12 w13 y0 m1 m8 m11 m12 m13 m14 m15 m16 m17 m18 m19 m20 m21 m25 m26 m29 m30 m31 m32 m34 m35 m36 m37 m40 m41 m42 m43 m44 m45 m46 m47 m48 m49 m50 m51 m52 o0 : Nat} {crf cnd co : ClassId}   (hs1 : xs (1 : Int32).toNatClampNeg = 1)
    (hend : ∀ (H : Heap) (locs : List Loc) (ls : Array Slot), va_S A s.heap H locs → lv_has ls 7 [(4, .int 0), (0, .ref b)] → W p l e room_1 s m #[Value.ref b] below meth c H locs 6567 850872 (lw_Z below #[Value.ref b] s) (F0 m 2301 ls []))
    {H : Heap} {locs : List Loc} {ls : Array Slot} (hP : va_P (dC, dI) vwCl [(x0, .inr (9, [.ref w1, .ref w6, .int 0, .ref w8, .ref w15, .int 0, .int 0, .ref w22, .ref w26, .ref w31, .ref w35, .ref w40, .ref w48, .ref w50, .ref w52])), (w8, .inr (4, [.ref w9, .ref w10, .ref w11, .ref w12, .ref w13, .int 0, .int 0, .int 0])), (y0, .inr (10, [.int 0, .ref m1, .int 0, .int 0, .int 0, .int (-1), .int 0, .int 0, .ref m8, .int 0, .int 0, .ref m11, .ref m12, .ref m13, .ref m14, .ref m15, .ref m16, .ref m17, .ref m18, .ref m19, .ref m20, .ref m21, .int 0, .int 0, .int 0, .ref m25, .ref m26, .int 0, .int 0, .ref m29, .ref m30, .ref m31, .ref m32, .int 0, .ref m34, .ref m35, .ref m36, .ref m37, .int 0, .int 0, .ref m40, .ref m41, .ref m42, .ref m43, .ref m44, .ref m45, .ref m46, .ref m47, .ref m48, .ref m49, .ref m50, .ref m51, .ref m52])), (m1, .inl (crf, 3, .inl (fun _ => 0))), (m21, .inl (cnd, 70, .inl (fun _ => 0))), (o0, .inl (co, 1, .inr (.inl (fun _ => 0))))] H) (hD : va_D A [(x0, .inr (9, [.ref w1, .ref w6, .int 0, .ref w8, .ref w15, .int 0, .int 0, .ref w22, .ref w26, .ref w31, .ref w35, .ref w40, .ref w48, .ref w50, .ref w52])), (w8, .inr (4, [.ref w9, .ref w10, .ref w11, .ref w12, .ref w13, .int 0, .int 0, .int 0])), (y0, .inr (10, [.int 0, .ref m1, .int 0, .int 0, .int 0, .int (-1), .int 0, .int 0, .ref m8, .int 0, .int 0, .ref m11, .ref m12, .ref m13, .ref m14, .ref m15, .ref m16, .ref m17, .ref m18, .ref m19, .ref m20, .ref m21, .int 0, .int 0, .int 0, .ref m25, .ref m26, .int 0, .int 0, .ref m29, .ref m30, .ref m31, .ref m32, .int 0, .ref m34, .ref m35, .ref m36, .ref m37, .int 0, .int 0, .ref m40, .ref m41, .ref m42, .ref m43, .ref m44, .ref m45, .ref m46, .ref m47, .ref m48, .ref m49, .ref m50, .ref m51, .ref m52])), (m1, .inl (crf, 3, .inl (fun _ => 0))), (m21, .inl (cnd, 70, .inl (fun _ => 0))), (o0, .inl (co, 1, .inr (.inl (fun _ => 0))))]) (hK : va_K (dC, dI) vwCl [(crf, .int), (cnd, .int), (co, .long)] s) (hS : va_S A s.heap H locs) (hl : lv_has ls 7 [(4, .int 0), (3, .ref o0), (2, .ref y0), (1, .ref x0), (0, .ref b)]) : W p l e room_1 s m #[Value.ref b] below meth c H locs 6559 850824 (lw_Z below #[Value.ref b] s) (F0 m 1685 ls []) := by
  obtain ⟨hfl, hx, hb, hml, hown, hts, hX, hbl, hbA, hA, hEx, hNc⟩ := C0
  refine lv_aload_n hx hb dL_law_1685 rfl (lv_at hl 3 rfl) ?_
  refine lv_aload_n hx hb dL_law_1686 rfl (lv_at hl 4 rfl) ?_
  refine lv_iload hx hb dL_law_1687 (lv_at hl 0 rfl) ?_
  refine lv_iconst (v := 1) hx hb dL_law_1689 (by decide) ?_
  refine lv_iadd hx hb dL_law_1690 ?_
  refine lv_topi (fun x9 ex9 => ?_)
  obtain rfl : x9 = 1 := ex9.trans (by decide +kernel)
  refine va_sld hx hb hX hbl hbA hS (by unfold vp_in; decide +kernel) dL_law_1691 ?_
  refine lv_topi (fun x9 ex9 => ?_)
  obtain rfl : x9 = 1 := ex9.trans hs1
  refine lv_aload_n hx hb dL_law_1692 rfl (lv_at hl 1 rfl) ?_
  have hPc := hP.sub (ws' := [(x0, .inr (9, [.ref w1, .ref w6, .int 0, .ref w8, .ref w15, .int 0, .int 0, .ref w22, .ref w26, .ref w31, .ref w35, .ref w40, .ref w48, .ref w50, .ref w52])), (w8, .inr (4, [.ref w9, .ref w10, .ref w11, .ref w12, .ref w13, .int 0, .int 0, .int 0])), (o0, .inl (co, 1, .inr (.inl (fun _ => 0))))]) [0, 1, 5] rfl
  have hDc := hD.sub (ws' := [(x0, .inr (9, [.ref w1, .ref w6, .int 0, .ref w8, .ref w15, .int 0, .int 0, .ref w22, .ref w26, .ref w31, .ref w35, .ref w40, .ref w48, .ref w50, .ref w52])), (w8, .inr (4, [.ref w9, .ref w10, .ref w11, .ref w12, .ref w13, .int 0, .int 0, .int 0])), (o0, .inl (co, 1, .inr (.inl (fun _ => 0))))]) [0, 1, 5] (by decide) rfl
  have hKc := hK.sub (tys' := [(co, .long)]) [2] rfl
  have hFc := va_free (wc := [(x0, .inr (9, [.ref w1, .ref w6, .int 0, .ref w8, .ref w15, .int 0, .int 0, .ref w22, .ref w26, .ref w31, .ref w35, .ref w40, .ref w48, .ref w50, .ref w52])), (w8, .inr (4, [.ref w9, .ref w10, .ref w11, .ref w12, .ref w13, .int 0, .int 0, .int 0])), (o0, .inl (co, 1, .inr (.inl (fun _ => 0))))]) hD hS hA [0, 1, 5] rfl
  refine va_calli (vx_runSW (hh := [(0, 9, 12, 13)]) (As := [.ref x0, .int 1, .ref o0]) (rest := []) ⟨hx, hb, hml, hown, hts⟩ (w_firm l hfl dC dI H.size (x0) (w1) (w6) (w8) (w15) (w22) (w26) (w31) (w35) (w40) (w48) (w50) (w52) (w9) (w10) (w11) (w12) (w13) (o0) (co) (1) (⟨by decide +kernel, by decide +kernel⟩)) (vx_cwSW 3 hts (gW_G k1085 k1086 k0 k1087) rfl rfl rfl (by decide +kernel) ⟨Nat.le_of_ble_eq_true rfl, Nat.le_of_ble_eq_true rfl⟩) ⟨fun a U g mk q => by obtain ⟨q0, q1, qP, qK, qD, qE⟩ := q; exact ⟨q0, q1, qP, va_K.moved (u := U) (U := U.calling g mk a) (Vm.Alike.refl U.vm) qK, qD, xX_call qE⟩, fun U hU hW => ⟨rfl, by rw [hU], by rw [hU]; exact hPc, va_K.moved hW.alike hKc, hDc.weaken (fun _ _ _ _ => trivial), xX_at hEx hS (fun q h => hFc q h) hU hW⟩⟩ rfl rfl hl.1 rfl (lv_room (Nat.le_of_ble_eq_true rfl)) dL_law_1693 ⟨Nat.le_of_ble_eq_true rfl, Nat.le_of_ble_eq_true rfl⟩) hS (fun q _ h => hFc q h) hFc (fun r101 u t H1 locs ht hvm hw hB hz1 hk1 hS => ?_)
  obtain ⟨hP1, hK1, hD1⟩ := hB
  rw [ht] at hP1
  have hK1 := va_K.moved hvm.symm hK1
  try dsimp only at hw
  obtain ⟨hP, hD⟩ := va_join (wr := [(y0, .inr (10, [.int 0, .ref m1, .int 0, .int 0, .int 0, .int (-1), .int 0, .int 0, .ref m8, .int 0, .int 0, .ref m11, .ref m12, .ref m13, .ref m14, .ref m15, .ref m16, .ref m17, .ref m18, .ref m19, .ref m20, .ref m21, .int 0, .int 0, .int 0, .ref m25, .ref m26, .int 0, .int 0, .ref m29, .ref m30, .ref m31, .ref m32, .int 0, .ref m34, .ref m35, .ref m36, .ref m37, .int 0, .int 0, .ref m40, .ref m41, .ref m42, .ref m43, .ref m44, .ref m45, .ref m46, .ref m47, .ref m48, .ref m49, .ref m50, .ref m51, .ref m52])), (m1, .inl (crf, 3, .inl (fun _ => 0))), (m21, .inl (cnd, 70, .inl (fun _ => 0)))]) (w1 := [(o0, .inl (co, 1, .inr (.inl (vp_updL (fun _ => 0) (0 : Int32).toNatClampNeg (0)))))]) hP hD [0, 1, 5] [2, 3, 4] rfl rfl (by decide) (by decide) hk1 hFc hP1 hD1
  have hK := hK.app hK1
  generalize H1 = H at hP hS ⊢
  have hP : va_P (dC, dI) vwCl [(y0, .inr (10, [.int 0, .ref m1, .int 0, .int 0, .int 0, .int (-1), .int 0, .int 0, .ref m8, .int 0, .int 0, .ref m11, .ref m12, .ref m13, .ref m14, .ref m15, .ref m16, .ref m17, .ref m18, .ref m19, .ref m20, .ref m21, .int 0, .int 0, .int 0, .ref m25, .ref m26, .int 0, .int 0, .ref m29, .ref m30, .ref m31, .ref m32, .int 0, .ref m34, .ref m35, .ref m36, .ref m37, .int 0, .int 0, .ref m40, .ref m41, .ref m42, .ref m43, .ref m44, .ref m45, .ref m46, .ref m47, .ref m48, .ref m49, .ref m50, .ref m51, .ref m52])), (m1, .inl (crf, 3, .inl (fun _ => 0))), (m21, .inl (cnd, 70, .inl (fun _ => 0))), (o0, .inl (co, 1, .inr (.inl (vp_updL (fun _ => 0) (0 : Int32).toNatClampNeg (0)))))] H := hP
  have hD : va_D A [(y0, .inr (10, [.int 0, .ref m1, .int 0, .int 0, .int 0, .int (-1), .int 0, .int 0, .ref m8, .int 0, .int 0, .ref m11, .ref m12, .ref m13, .ref m14, .ref m15, .ref m16, .ref m17, .ref m18, .ref m19, .ref m20, .ref m21, .int 0, .int 0, .int 0, .ref m25, .ref m26, .int 0, .int 0, .ref m29, .ref m30, .ref m31, .ref m32, .int 0, .ref m34, .ref m35, .ref m36, .ref m37, .int 0, .int 0, .ref m40, .ref m41, .ref m42, .ref m43, .ref m44, .ref m45, .ref m46, .ref m47, .ref m48, .ref m49, .ref m50, .ref m51, .ref m52])), (m1, .inl (crf, 3, .inl (fun _ => 0))), (m21, .inl (cnd, 70, .inl (fun _ => 0))), (o0, .inl (co, 1, .inr (.inl (vp_updL (fun _ => 0) (0 : Int32).toNatClampNeg (0)))))] := hD
  have hK : va_K (dC, dI) vwCl [(crf, .int), (cnd, .int), (co, .long), (co, .long)] s := hK
  refine W.widen (k := 6559) (n := 850824) (by omega) (by omega) ?_
  obtain rfl : r101 = 0 := hw
  refine lv_istore (lv' := [(5, .int 0), (4, .int 0), (3, .ref o0), (2, .ref y0), (1, .ref x0), (0, .ref b)]) hx hb dL_law_1696 hl (by decide) rfl (fun ls hl => ?_)
  refine lv_aload_n hx hb dL_law_1698 rfl (lv_at hl 3 rfl) ?_
  refine lv_aload_n hx hb dL_law_1699 rfl (lv_at hl 5 rfl) ?_
  refine lv_iload hx hb dL_law_1700 (lv_at hl 1 rfl) ?_
  refine lv_iconst (v := 1) hx hb dL_law_1702 (by decide) ?_
  refine lv_iadd hx hb dL_law_1703 ?_
  refine lv_topi (fun x9 ex9 => ?_)
  obtain rfl : x9 = 1 := ex9.trans (by decide +kernel)
  refine va_sld hx hb hX hbl hbA hS (by unfold vp_in; decide +kernel) dL_law_1704 ?_
  refine lv_topi (fun x9 ex9 => ?_)
  obtain rfl : x9 = 1 := ex9.trans hs1
  have hPc := hP.sub (ws' := [(y0, .inr (10, [.int 0, .ref m1, .int 0, .int 0, .int 0, .int (-1), .int 0, .int 0, .ref m8, .int 0, .int 0, .ref m11, .ref m12, .ref m13, .ref m14, .ref m15, .ref m16, .ref m17, .ref m18, .ref m19, .ref m20, .ref m21, .int 0, .int 0, .int 0, .ref m25, .ref m26, .int 0, .int 0, .ref m29, .ref m30, .ref m31, .ref m32, .int 0, .ref m34, .ref m35, .ref m36, .ref m37, .int 0, .int 0, .ref m40, .ref m41, .ref m42, .ref m43, .ref m44, .ref m45, .ref m46, .ref m47, .ref m48, .ref m49, .ref m50, .ref m51, .ref m52])), (m1, .inl (crf, 3, .inl (fun _ => 0))), (m21, .inl (cnd, 70, .inl (fun _ => 0)))]) [0, 1, 2] rfl
  have hDc := hD.sub (ws' := [(y0, .inr (10, [.int 0, .ref m1, .int 0, .int 0, .int 0, .int (-1), .int 0, .int 0, .ref m8, .int 0, .int 0, .ref m11, .ref m12, .ref m13, .ref m14, .ref m15, .ref m16, .ref m17, .ref m18, .ref m19, .ref m20, .ref m21, .int 0, .int 0, .int 0, .ref m25, .ref m26, .int 0, .int 0, .ref m29, .ref m30, .ref m31, .ref m32, .int 0, .ref m34, .ref m35, .ref m36, .ref m37, .int 0, .int 0, .ref m40, .ref m41, .ref m42, .ref m43, .ref m44, .ref m45, .ref m46, .ref m47, .ref m48, .ref m49, .ref m50, .ref m51, .ref m52])), (m1, .inl (crf, 3, .inl (fun _ => 0))), (m21, .inl (cnd, 70, .inl (fun _ => 0)))]) [0, 1, 2] (by decide) rfl
  have hKc := hK.sub (tys' := [(crf, .int), (cnd, .int)]) [0, 1] rfl
  have hFc := va_free (wc := [(y0, .inr (10, [.int 0, .ref m1, .int 0, .int 0, .int 0, .int (-1), .int 0, .int 0, .ref m8, .int 0, .int 0, .ref m11, .ref m12, .ref m13, .ref m14, .ref m15, .ref m16, .ref m17, .ref m18, .ref m19, .ref m20, .ref m21, .int 0, .int 0, .int 0, .ref m25, .ref m26, .int 0, .int 0, .ref m29, .ref m30, .ref m31, .ref m32, .int 0, .ref m34, .ref m35, .ref m36, .ref m37, .int 0, .int 0, .ref m40, .ref m41, .ref m42, .ref m43, .ref m44, .ref m45, .ref m46, .ref m47, .ref m48, .ref m49, .ref m50, .ref m51, .ref m52])), (m1, .inl (crf, 3, .inl (fun _ => 0))), (m21, .inl (cnd, 70, .inl (fun _ => 0)))]) hD hS hA [0, 1, 2] rfl
  refine va_calli (va_runV (As := [.int 1]) (rest := []) ⟨hx, hb, hml, hown, hts⟩ (m_firm1 l dC dI H.size (y0) (m1) (m8) (m11) (m12) (m13) (m14) (m15) (m16) (m17) (m18) (m19) (m20) (m21) (m25) (m26) (m29) (m30) (m31) (m32) (m34) (m35) (m36) (m37) (m40) (m41) (m42) (m43) (m44) (m45) (m46) (m47) (m48) (m49) (m50) (m51) (m52) (crf) (cnd)) (cwV 1 hts (gV_G k1731 k1732 k1733 k13 k1734) rfl rfl rfl (by decide +kernel) ⟨Nat.le_of_ble_eq_true rfl, Nat.le_of_ble_eq_true rfl⟩) ⟨fun a U g mk q => by obtain ⟨q0, q1, qP, qK, qD⟩ := q; exact ⟨q0, q1, qP, va_K.moved (u := U) (U := U.calling g mk a) (Vm.Alike.refl U.vm) qK, qD⟩, va_recv hKc hPc (ci := 10) (q0 := 0) rfl rfl, fun U hU hW => ⟨rfl, by rw [hU], by rw [hU]; exact hPc, va_K.moved hW.alike hKc, hDc.weaken (fun _ _ _ _ => trivial)⟩⟩ rfl rfl hl.1 rfl (lv_room (Nat.le_of_ble_eq_true rfl)) dL_law_1705 ⟨Nat.le_of_ble_eq_true rfl, Nat.le_of_ble_eq_true rfl⟩) hS (fun q _ h => hFc q h) hFc (fun r102 u t H1 locs ht hvm hw hB hz1 hk1 hS => ?_)
  obtain ⟨hP1, hK1, hD1⟩ := hB
  rw [ht] at hP1
  have hK1 := va_K.moved hvm.symm hK1
  try dsimp only at hw
  obtain ⟨hP, hD⟩ := va_join (wr := [(o0, .inl (co, 1, .inr (.inl (vp_updL (fun _ => 0) (0 : Int32).toNatClampNeg (0)))))]) (w1 := [(y0, .inr (10, [.int 0, .ref m1, .int 0, .int 0, .int 0, .int (-1), .int 0, .int 0, .ref m8, .int 0, .int 0, .ref m11, .ref m12, .ref m13, .ref m14, .ref m15, .ref m16, .ref m17, .ref m18, .ref m19, .ref m20, .ref m21, .int 0, .int 0, .int 0, .ref m25, .ref m26, .int 0, .int 0, .ref m29, .ref m30, .ref m31, .ref m32, .int 0, .ref m34, .ref m35, .ref m36, .ref m37, .int 0, .int 0, .ref m40, .ref m41, .ref m42, .ref m43, .ref m44, .ref m45, .ref m46, .ref m47, .ref m48, .ref m49, .ref m50, .ref m51, .ref m52]))]) hP hD [0, 1, 2] [3] rfl rfl (by decide) (by decide) hk1 hFc hP1 hD1
  have hK := hK.app hK1
  generalize H1 = H at hP hS ⊢
  have hP : va_P (dC, dI) vwCl [(o0, .inl (co, 1, .inr (.inl (vp_updL (fun _ => 0) (0 : Int32).toNatClampNeg (0))))), (y0, .inr (10, [.int 0, .ref m1, .int 0, .int 0, .int 0, .int (-1), .int 0, .int 0, .ref m8, .int 0, .int 0, .ref m11, .ref m12, .ref m13, .ref m14, .ref m15, .ref m16, .ref m17, .ref m18, .ref m19, .ref m20, .ref m21, .int 0, .int 0, .int 0, .ref m25, .ref m26, .int 0, .int 0, .ref m29, .ref m30, .ref m31, .ref m32, .int 0, .ref m34, .ref m35, .ref m36, .ref m37, .int 0, .int 0, .ref m40, .ref m41, .ref m42, .ref m43, .ref m44, .ref m45, .ref m46, .ref m47, .ref m48, .ref m49, .ref m50, .ref m51, .ref m52]))] H := hP
  have hD : va_D A [(o0, .inl (co, 1, .inr (.inl (vp_updL (fun _ => 0) (0 : Int32).toNatClampNeg (0))))), (y0, .inr (10, [.int 0, .ref m1, .int 0, .int 0, .int 0, .int (-1), .int 0, .int 0, .ref m8, .int 0, .int 0, .ref m11, .ref m12, .ref m13, .ref m14, .ref m15, .ref m16, .ref m17, .ref m18, .ref m19, .ref m20, .ref m21, .int 0, .int 0, .int 0, .ref m25, .ref m26, .int 0, .int 0, .ref m29, .ref m30, .ref m31, .ref m32, .int 0, .ref m34, .ref m35, .ref m36, .ref m37, .int 0, .int 0, .ref m40, .ref m41, .ref m42, .ref m43, .ref m44, .ref m45, .ref m46, .ref m47, .ref m48, .ref m49, .ref m50, .ref m51, .ref m52]))] := hD
  have hK : va_K (dC, dI) vwCl [(crf, .int), (cnd, .int), (co, .long), (co, .long)] s := hK
  refine W.widen (k := 6559) (n := 850824) (by omega) (by omega) ?_
  obtain rfl : r102 = 0 := hw
  refine lv_istore (lv' := [(6, .int 0), (5, .int 0), (4, .int 0), (3, .ref o0), (2, .ref y0), (1, .ref x0), (0, .ref b)]) hx hb dL_law_1708 hl (by decide) rfl (fun ls hl => ?_)
  refine lv_aload_n hx hb dL_law_1710 rfl (lv_at hl 4 rfl) ?_
  have hPc := hP.sub (ws' := [(y0, .inr (10, [.int 0, .ref m1, .int 0, .int 0, .int 0, .int (-1), .int 0, .int 0, .ref m8, .int 0, .int 0, .ref m11, .ref m12, .ref m13, .ref m14, .ref m15, .ref m16, .ref m17, .ref m18, .ref m19, .ref m20, .ref m21, .int 0, .int 0, .int 0, .ref m25, .ref m26, .int 0, .int 0, .ref m29, .ref m30, .ref m31, .ref m32, .int 0, .ref m34, .ref m35, .ref m36, .ref m37, .int 0, .int 0, .ref m40, .ref m41, .ref m42, .ref m43, .ref m44, .ref m45, .ref m46, .ref m47, .ref m48, .ref m49, .ref m50, .ref m51, .ref m52]))]) [1] rfl
  have hDc := hD.sub (ws' := [(y0, .inr (10, [.int 0, .ref m1, .int 0, .int 0, .int 0, .int (-1), .int 0, .int 0, .ref m8, .int 0, .int 0, .ref m11, .ref m12, .ref m13, .ref m14, .ref m15, .ref m16, .ref m17, .ref m18, .ref m19, .ref m20, .ref m21, .int 0, .int 0, .int 0, .ref m25, .ref m26, .int 0, .int 0, .ref m29, .ref m30, .ref m31, .ref m32, .int 0, .ref m34, .ref m35, .ref m36, .ref m37, .int 0, .int 0, .ref m40, .ref m41, .ref m42, .ref m43, .ref m44, .ref m45, .ref m46, .ref m47, .ref m48, .ref m49, .ref m50, .ref m51, .ref m52]))]) [1] (by decide) rfl
  have hKc := hK.sub (tys' := []) [] rfl
  have hFc := va_free (wc := [(y0, .inr (10, [.int 0, .ref m1, .int 0, .int 0, .int 0, .int (-1), .int 0, .int 0, .ref m8, .int 0, .int 0, .ref m11, .ref m12, .ref m13, .ref m14, .ref m15, .ref m16, .ref m17, .ref m18, .ref m19, .ref m20, .ref m21, .int 0, .int 0, .int 0, .ref m25, .ref m26, .int 0, .int 0, .ref m29, .ref m30, .ref m31, .ref m32, .int 0, .ref m34, .ref m35, .ref m36, .ref m37, .int 0, .int 0, .ref m40, .ref m41, .ref m42, .ref m43, .ref m44, .ref m45, .ref m46, .ref m47, .ref m48, .ref m49, .ref m50, .ref m51, .ref m52]))]) hD hS hA [1] rfl
  refine va_calli (va_runV (As := []) (rest := []) ⟨hx, hb, hml, hown, hts⟩ (m_thrown l dC dI H.size (y0) (0) (m1) (0) (0) (0) ((-1)) (0) (0) (m8) (0) (0) (m11) (m12) (m13) (m14) (m15) (m16) (m17) (m18) (m19) (m20) (m21) (0) (0) (0) (m25) (m26) (0) (0) (m29) (m30) (m31) (m32) (0) (m34) (m35) (m36) (m37) (0) (0) (m40) (m41) (m42) (m43) (m44) (m45) (m46) (m47) (m48) (m49) (m50) (m51) (m52)) (cwV 0 hts (gV_G k1327 k1328 k1329 k13 k1330) rfl rfl rfl (by decide +kernel) ⟨Nat.le_of_ble_eq_true rfl, Nat.le_of_ble_eq_true rfl⟩) ⟨fun a U g mk q => by obtain ⟨q0, q1, qP, qK, qD⟩ := q; exact ⟨q0, q1, qP, va_K.moved (u := U) (U := U.calling g mk a) (Vm.Alike.refl U.vm) qK, qD⟩, va_recv hKc hPc (ci := 10) (q0 := 0) rfl rfl, fun U hU hW => ⟨rfl, by rw [hU], by rw [hU]; exact hPc, va_K.moved hW.alike hKc, hDc.weaken (fun _ _ _ _ => trivial)⟩⟩ rfl rfl hl.1 rfl (lv_room (Nat.le_of_ble_eq_true rfl)) dL_law_1711 ⟨Nat.le_of_ble_eq_true rfl, Nat.le_of_ble_eq_true rfl⟩) hS (fun q _ h => hFc q h) hFc (fun r103 u t H1 locs ht hvm hw hB hz1 hk1 hS => ?_)
  obtain ⟨hP1, hK1, hD1⟩ := hB
  rw [ht] at hP1
  have hK1 := va_K.moved hvm.symm hK1
  try dsimp only at hw
  obtain ⟨hP, hD⟩ := va_join (wr := [(o0, .inl (co, 1, .inr (.inl (vp_updL (fun _ => 0) (0 : Int32).toNatClampNeg (0)))))]) (w1 := []) hP hD [1] [0] rfl rfl (by decide) (by decide) hk1 hFc hP1 hD1
  have hK := hK.app hK1
  generalize H1 = H at hP hS ⊢
  have hP : va_P (dC, dI) vwCl [(o0, .inl (co, 1, .inr (.inl (vp_updL (fun _ => 0) (0 : Int32).toNatClampNeg (0)))))] H := hP
  have hD : va_D A [(o0, .inl (co, 1, .inr (.inl (vp_updL (fun _ => 0) (0 : Int32).toNatClampNeg (0)))))] := hD
  have hK : va_K (dC, dI) vwCl [(crf, .int), (cnd, .int), (co, .long), (co, .long)] s := hK
  refine W.widen (k := 6559) (n := 850824) (by omega) (by omega) ?_
  obtain rfl : r103 = 0 := hw
  refine lv_iload hx hb dL_law_1714 (lv_at hl 1 rfl) ?_
  refine lv_icmp_eq (tgt := 1721) hx hb dL_law_1716 (by decide) (fun _ => ?_) (fun c9 => absurd (by decide +kernel) c9)
  refine lv_iload hx hb dL_law_1721 (lv_at hl 1 rfl) ?_
  refine lv_if_ne (tgt := 1738) hx hb dL_law_1723 (by decide) (fun c9 => absurd (by decide +kernel) c9) (fun _ => ?_)
  refine lv_aload_n hx hb dL_law_1726 rfl (lv_at hl 3 rfl) ?_
  refine lv_iconst (v := 0) hx hb dL_law_1727 (by decide) ?_
  refine va_lald hx hb hK hP 0 2 rfl rfl (by unfold vp_in; decide +kernel) dL_law_1728 ?_
  refine lv_topl (fun y9 ey9 => ?_)
  obtain rfl : y9 = 0 := ey9.trans pk_uLs
  refine lv_iload hx hb dL_law_1729 (lv_at hl 0 rfl) ?_
  refine lv_i2l (v := 0) hx hb dL_law_1731 (by decide +kernel) ?_
  refine x_lcmp0 hx hb dL_law_1732 ?_
  refine lv_if_eq (tgt := 1738) hx hb dL_law_1733 (by decide) (fun _ => ?_) (fun c9 => absurd (by decide +kernel) c9)
  refine lv_goto (tgt := 2301) hx hb dL_law_1738 (by decide) ?_
  refine W.widen (k := 6567) (n := 850872) (by omega) (by omega) ?_
  exact hend H locs ls hS (lv_sub hl [2, 6] rfl)
set_option maxHeartbeats 4000000 in
set_option maxRecDepth 100000 in
theorem lc_firm2 {p : Program} {l : Launch} {e : Env} {s : State} {m : MethodId} {below : List Frame} {meth : Method} {c : Code} {dC : Nat → ClassId} {dI : Nat → Nat → Nat} {A : Nat → Prop} {b : Nat} {xs : Nat → Int32} (C0 : lx_C p l s m c A b xs) {x0 w1 w6 w8 w15 w22 w26 w31 w35 w40 w48 w50 w52 w9 w10 w11 w12 w13 y0 m1 m8 m11 m12 m13 m14 m15 m16 m17 m18 m19 m20 m21 m25 m26 m29 m30 m31 m32 m34 m35 m36 m37 m40 m41 m42 m43 m44 m45 m46 m47 m48 m49 m50 m51 m52 o0 : Nat} {crf cnd co : ClassId}   (hs1 : xs (1 : Int32).toNatClampNeg = 2)
    (hend : ∀ (H : Heap) (locs : List Loc) (ls : Array Slot), va_S A s.heap H locs → lv_has ls 7 [(4, .int 0), (0, .ref b)] → W p l e room_1 s m #[Value.ref b] below meth c H locs 6567 850872 (lw_Z below #[Value.ref b] s) (F0 m 2301 ls []))
    {H : Heap} {locs : List Loc} {ls : Array Slot} (hP : va_P (dC, dI) vwCl [(x0, .inr (9, [.ref w1, .ref w6, .int 0, .ref w8, .ref w15, .int 0, .int 0, .ref w22, .ref w26, .ref w31, .ref w35, .ref w40, .ref w48, .ref w50, .ref w52])), (w8, .inr (4, [.ref w9, .ref w10, .ref w11, .ref w12, .ref w13, .int 0, .int 0, .int 0])), (y0, .inr (10, [.int 0, .ref m1, .int 0, .int 0, .int 0, .int (-1), .int 0, .int 0, .ref m8, .int 0, .int 0, .ref m11, .ref m12, .ref m13, .ref m14, .ref m15, .ref m16, .ref m17, .ref m18, .ref m19, .ref m20, .ref m21, .int 0, .int 0, .int 0, .ref m25, .ref m26, .int 0, .int 0, .ref m29, .ref m30, .ref m31, .ref m32, .int 0, .ref m34, .ref m35, .ref m36, .ref m37, .int 0, .int 0, .ref m40, .ref m41, .ref m42, .ref m43, .ref m44, .ref m45, .ref m46, .ref m47, .ref m48, .ref m49, .ref m50, .ref m51, .ref m52])), (m1, .inl (crf, 3, .inl (fun _ => 0))), (m21, .inl (cnd, 70, .inl (fun _ => 0))), (o0, .inl (co, 1, .inr (.inl (fun _ => 0))))] H) (hD : va_D A [(x0, .inr (9, [.ref w1, .ref w6, .int 0, .ref w8, .ref w15, .int 0, .int 0, .ref w22, .ref w26, .ref w31, .ref w35, .ref w40, .ref w48, .ref w50, .ref w52])), (w8, .inr (4, [.ref w9, .ref w10, .ref w11, .ref w12, .ref w13, .int 0, .int 0, .int 0])), (y0, .inr (10, [.int 0, .ref m1, .int 0, .int 0, .int 0, .int (-1), .int 0, .int 0, .ref m8, .int 0, .int 0, .ref m11, .ref m12, .ref m13, .ref m14, .ref m15, .ref m16, .ref m17, .ref m18, .ref m19, .ref m20, .ref m21, .int 0, .int 0, .int 0, .ref m25, .ref m26, .int 0, .int 0, .ref m29, .ref m30, .ref m31, .ref m32, .int 0, .ref m34, .ref m35, .ref m36, .ref m37, .int 0, .int 0, .ref m40, .ref m41, .ref m42, .ref m43, .ref m44, .ref m45, .ref m46, .ref m47, .ref m48, .ref m49, .ref m50, .ref m51, .ref m52])), (m1, .inl (crf, 3, .inl (fun _ => 0))), (m21, .inl (cnd, 70, .inl (fun _ => 0))), (o0, .inl (co, 1, .inr (.inl (fun _ => 0))))]) (hK : va_K (dC, dI) vwCl [(crf, .int), (cnd, .int), (co, .long)] s) (hS : va_S A s.heap H locs) (hl : lv_has ls 7 [(4, .int 0), (3, .ref o0), (2, .ref y0), (1, .ref x0), (0, .ref b)]) : W p l e room_1 s m #[Value.ref b] below meth c H locs 6559 850824 (lw_Z below #[Value.ref b] s) (F0 m 1685 ls []) := by
  obtain ⟨hfl, hx, hb, hml, hown, hts, hX, hbl, hbA, hA, hEx, hNc⟩ := C0
  refine lv_aload_n hx hb dL_law_1685 rfl (lv_at hl 3 rfl) ?_
  refine lv_aload_n hx hb dL_law_1686 rfl (lv_at hl 4 rfl) ?_
  refine lv_iload hx hb dL_law_1687 (lv_at hl 0 rfl) ?_
  refine lv_iconst (v := 1) hx hb dL_law_1689 (by decide) ?_
  refine lv_iadd hx hb dL_law_1690 ?_
  refine lv_topi (fun x9 ex9 => ?_)
  obtain rfl : x9 = 1 := ex9.trans (by decide +kernel)
  refine va_sld hx hb hX hbl hbA hS (by unfold vp_in; decide +kernel) dL_law_1691 ?_
  refine lv_topi (fun x9 ex9 => ?_)
  obtain rfl : x9 = 2 := ex9.trans hs1
  refine lv_aload_n hx hb dL_law_1692 rfl (lv_at hl 1 rfl) ?_
  have hPc := hP.sub (ws' := [(x0, .inr (9, [.ref w1, .ref w6, .int 0, .ref w8, .ref w15, .int 0, .int 0, .ref w22, .ref w26, .ref w31, .ref w35, .ref w40, .ref w48, .ref w50, .ref w52])), (w8, .inr (4, [.ref w9, .ref w10, .ref w11, .ref w12, .ref w13, .int 0, .int 0, .int 0])), (o0, .inl (co, 1, .inr (.inl (fun _ => 0))))]) [0, 1, 5] rfl
  have hDc := hD.sub (ws' := [(x0, .inr (9, [.ref w1, .ref w6, .int 0, .ref w8, .ref w15, .int 0, .int 0, .ref w22, .ref w26, .ref w31, .ref w35, .ref w40, .ref w48, .ref w50, .ref w52])), (w8, .inr (4, [.ref w9, .ref w10, .ref w11, .ref w12, .ref w13, .int 0, .int 0, .int 0])), (o0, .inl (co, 1, .inr (.inl (fun _ => 0))))]) [0, 1, 5] (by decide) rfl
  have hKc := hK.sub (tys' := [(co, .long)]) [2] rfl
  have hFc := va_free (wc := [(x0, .inr (9, [.ref w1, .ref w6, .int 0, .ref w8, .ref w15, .int 0, .int 0, .ref w22, .ref w26, .ref w31, .ref w35, .ref w40, .ref w48, .ref w50, .ref w52])), (w8, .inr (4, [.ref w9, .ref w10, .ref w11, .ref w12, .ref w13, .int 0, .int 0, .int 0])), (o0, .inl (co, 1, .inr (.inl (fun _ => 0))))]) hD hS hA [0, 1, 5] rfl
  refine va_calli (vx_runSW (hh := [(0, 9, 12, 13)]) (As := [.ref x0, .int 2, .ref o0]) (rest := []) ⟨hx, hb, hml, hown, hts⟩ (w_firm l hfl dC dI H.size (x0) (w1) (w6) (w8) (w15) (w22) (w26) (w31) (w35) (w40) (w48) (w50) (w52) (w9) (w10) (w11) (w12) (w13) (o0) (co) (2) (⟨by decide +kernel, by decide +kernel⟩)) (vx_cwSW 3 hts (gW_G k1085 k1086 k0 k1087) rfl rfl rfl (by decide +kernel) ⟨Nat.le_of_ble_eq_true rfl, Nat.le_of_ble_eq_true rfl⟩) ⟨fun a U g mk q => by obtain ⟨q0, q1, qP, qK, qD, qE⟩ := q; exact ⟨q0, q1, qP, va_K.moved (u := U) (U := U.calling g mk a) (Vm.Alike.refl U.vm) qK, qD, xX_call qE⟩, fun U hU hW => ⟨rfl, by rw [hU], by rw [hU]; exact hPc, va_K.moved hW.alike hKc, hDc.weaken (fun _ _ _ _ => trivial), xX_at hEx hS (fun q h => hFc q h) hU hW⟩⟩ rfl rfl hl.1 rfl (lv_room (Nat.le_of_ble_eq_true rfl)) dL_law_1693 ⟨Nat.le_of_ble_eq_true rfl, Nat.le_of_ble_eq_true rfl⟩) hS (fun q _ h => hFc q h) hFc (fun r101 u t H1 locs ht hvm hw hB hz1 hk1 hS => ?_)
  obtain ⟨hP1, hK1, hD1⟩ := hB
  rw [ht] at hP1
  have hK1 := va_K.moved hvm.symm hK1
  try dsimp only at hw
  obtain ⟨hP, hD⟩ := va_join (wr := [(y0, .inr (10, [.int 0, .ref m1, .int 0, .int 0, .int 0, .int (-1), .int 0, .int 0, .ref m8, .int 0, .int 0, .ref m11, .ref m12, .ref m13, .ref m14, .ref m15, .ref m16, .ref m17, .ref m18, .ref m19, .ref m20, .ref m21, .int 0, .int 0, .int 0, .ref m25, .ref m26, .int 0, .int 0, .ref m29, .ref m30, .ref m31, .ref m32, .int 0, .ref m34, .ref m35, .ref m36, .ref m37, .int 0, .int 0, .ref m40, .ref m41, .ref m42, .ref m43, .ref m44, .ref m45, .ref m46, .ref m47, .ref m48, .ref m49, .ref m50, .ref m51, .ref m52])), (m1, .inl (crf, 3, .inl (fun _ => 0))), (m21, .inl (cnd, 70, .inl (fun _ => 0)))]) (w1 := [(o0, .inl (co, 1, .inr (.inl (vp_updL (fun _ => 0) (0 : Int32).toNatClampNeg (0)))))]) hP hD [0, 1, 5] [2, 3, 4] rfl rfl (by decide) (by decide) hk1 hFc hP1 hD1
  have hK := hK.app hK1
  generalize H1 = H at hP hS ⊢
  have hP : va_P (dC, dI) vwCl [(y0, .inr (10, [.int 0, .ref m1, .int 0, .int 0, .int 0, .int (-1), .int 0, .int 0, .ref m8, .int 0, .int 0, .ref m11, .ref m12, .ref m13, .ref m14, .ref m15, .ref m16, .ref m17, .ref m18, .ref m19, .ref m20, .ref m21, .int 0, .int 0, .int 0, .ref m25, .ref m26, .int 0, .int 0, .ref m29, .ref m30, .ref m31, .ref m32, .int 0, .ref m34, .ref m35, .ref m36, .ref m37, .int 0, .int 0, .ref m40, .ref m41, .ref m42, .ref m43, .ref m44, .ref m45, .ref m46, .ref m47, .ref m48, .ref m49, .ref m50, .ref m51, .ref m52])), (m1, .inl (crf, 3, .inl (fun _ => 0))), (m21, .inl (cnd, 70, .inl (fun _ => 0))), (o0, .inl (co, 1, .inr (.inl (vp_updL (fun _ => 0) (0 : Int32).toNatClampNeg (0)))))] H := hP
  have hD : va_D A [(y0, .inr (10, [.int 0, .ref m1, .int 0, .int 0, .int 0, .int (-1), .int 0, .int 0, .ref m8, .int 0, .int 0, .ref m11, .ref m12, .ref m13, .ref m14, .ref m15, .ref m16, .ref m17, .ref m18, .ref m19, .ref m20, .ref m21, .int 0, .int 0, .int 0, .ref m25, .ref m26, .int 0, .int 0, .ref m29, .ref m30, .ref m31, .ref m32, .int 0, .ref m34, .ref m35, .ref m36, .ref m37, .int 0, .int 0, .ref m40, .ref m41, .ref m42, .ref m43, .ref m44, .ref m45, .ref m46, .ref m47, .ref m48, .ref m49, .ref m50, .ref m51, .ref m52])), (m1, .inl (crf, 3, .inl (fun _ => 0))), (m21, .inl (cnd, 70, .inl (fun _ => 0))), (o0, .inl (co, 1, .inr (.inl (vp_updL (fun _ => 0) (0 : Int32).toNatClampNeg (0)))))] := hD
  have hK : va_K (dC, dI) vwCl [(crf, .int), (cnd, .int), (co, .long), (co, .long)] s := hK
  refine W.widen (k := 6559) (n := 850824) (by omega) (by omega) ?_
  obtain rfl : r101 = 0 := hw
  refine lv_istore (lv' := [(5, .int 0), (4, .int 0), (3, .ref o0), (2, .ref y0), (1, .ref x0), (0, .ref b)]) hx hb dL_law_1696 hl (by decide) rfl (fun ls hl => ?_)
  refine lv_aload_n hx hb dL_law_1698 rfl (lv_at hl 3 rfl) ?_
  refine lv_aload_n hx hb dL_law_1699 rfl (lv_at hl 5 rfl) ?_
  refine lv_iload hx hb dL_law_1700 (lv_at hl 1 rfl) ?_
  refine lv_iconst (v := 1) hx hb dL_law_1702 (by decide) ?_
  refine lv_iadd hx hb dL_law_1703 ?_
  refine lv_topi (fun x9 ex9 => ?_)
  obtain rfl : x9 = 1 := ex9.trans (by decide +kernel)
  refine va_sld hx hb hX hbl hbA hS (by unfold vp_in; decide +kernel) dL_law_1704 ?_
  refine lv_topi (fun x9 ex9 => ?_)
  obtain rfl : x9 = 2 := ex9.trans hs1
  have hPc := hP.sub (ws' := [(y0, .inr (10, [.int 0, .ref m1, .int 0, .int 0, .int 0, .int (-1), .int 0, .int 0, .ref m8, .int 0, .int 0, .ref m11, .ref m12, .ref m13, .ref m14, .ref m15, .ref m16, .ref m17, .ref m18, .ref m19, .ref m20, .ref m21, .int 0, .int 0, .int 0, .ref m25, .ref m26, .int 0, .int 0, .ref m29, .ref m30, .ref m31, .ref m32, .int 0, .ref m34, .ref m35, .ref m36, .ref m37, .int 0, .int 0, .ref m40, .ref m41, .ref m42, .ref m43, .ref m44, .ref m45, .ref m46, .ref m47, .ref m48, .ref m49, .ref m50, .ref m51, .ref m52])), (m1, .inl (crf, 3, .inl (fun _ => 0))), (m21, .inl (cnd, 70, .inl (fun _ => 0)))]) [0, 1, 2] rfl
  have hDc := hD.sub (ws' := [(y0, .inr (10, [.int 0, .ref m1, .int 0, .int 0, .int 0, .int (-1), .int 0, .int 0, .ref m8, .int 0, .int 0, .ref m11, .ref m12, .ref m13, .ref m14, .ref m15, .ref m16, .ref m17, .ref m18, .ref m19, .ref m20, .ref m21, .int 0, .int 0, .int 0, .ref m25, .ref m26, .int 0, .int 0, .ref m29, .ref m30, .ref m31, .ref m32, .int 0, .ref m34, .ref m35, .ref m36, .ref m37, .int 0, .int 0, .ref m40, .ref m41, .ref m42, .ref m43, .ref m44, .ref m45, .ref m46, .ref m47, .ref m48, .ref m49, .ref m50, .ref m51, .ref m52])), (m1, .inl (crf, 3, .inl (fun _ => 0))), (m21, .inl (cnd, 70, .inl (fun _ => 0)))]) [0, 1, 2] (by decide) rfl
  have hKc := hK.sub (tys' := [(crf, .int), (cnd, .int)]) [0, 1] rfl
  have hFc := va_free (wc := [(y0, .inr (10, [.int 0, .ref m1, .int 0, .int 0, .int 0, .int (-1), .int 0, .int 0, .ref m8, .int 0, .int 0, .ref m11, .ref m12, .ref m13, .ref m14, .ref m15, .ref m16, .ref m17, .ref m18, .ref m19, .ref m20, .ref m21, .int 0, .int 0, .int 0, .ref m25, .ref m26, .int 0, .int 0, .ref m29, .ref m30, .ref m31, .ref m32, .int 0, .ref m34, .ref m35, .ref m36, .ref m37, .int 0, .int 0, .ref m40, .ref m41, .ref m42, .ref m43, .ref m44, .ref m45, .ref m46, .ref m47, .ref m48, .ref m49, .ref m50, .ref m51, .ref m52])), (m1, .inl (crf, 3, .inl (fun _ => 0))), (m21, .inl (cnd, 70, .inl (fun _ => 0)))]) hD hS hA [0, 1, 2] rfl
  refine va_calli (va_runV (As := [.int 2]) (rest := []) ⟨hx, hb, hml, hown, hts⟩ (m_firm2 l dC dI H.size (y0) (m1) (m8) (m11) (m12) (m13) (m14) (m15) (m16) (m17) (m18) (m19) (m20) (m21) (m25) (m26) (m29) (m30) (m31) (m32) (m34) (m35) (m36) (m37) (m40) (m41) (m42) (m43) (m44) (m45) (m46) (m47) (m48) (m49) (m50) (m51) (m52) (crf) (cnd)) (cwV 1 hts (gV_G k1731 k1732 k1733 k13 k1734) rfl rfl rfl (by decide +kernel) ⟨Nat.le_of_ble_eq_true rfl, Nat.le_of_ble_eq_true rfl⟩) ⟨fun a U g mk q => by obtain ⟨q0, q1, qP, qK, qD⟩ := q; exact ⟨q0, q1, qP, va_K.moved (u := U) (U := U.calling g mk a) (Vm.Alike.refl U.vm) qK, qD⟩, va_recv hKc hPc (ci := 10) (q0 := 0) rfl rfl, fun U hU hW => ⟨rfl, by rw [hU], by rw [hU]; exact hPc, va_K.moved hW.alike hKc, hDc.weaken (fun _ _ _ _ => trivial)⟩⟩ rfl rfl hl.1 rfl (lv_room (Nat.le_of_ble_eq_true rfl)) dL_law_1705 ⟨Nat.le_of_ble_eq_true rfl, Nat.le_of_ble_eq_true rfl⟩) hS (fun q _ h => hFc q h) hFc (fun r102 u t H1 locs ht hvm hw hB hz1 hk1 hS => ?_)
  obtain ⟨hP1, hK1, hD1⟩ := hB
  rw [ht] at hP1
  have hK1 := va_K.moved hvm.symm hK1
  try dsimp only at hw
  obtain ⟨hP, hD⟩ := va_join (wr := [(o0, .inl (co, 1, .inr (.inl (vp_updL (fun _ => 0) (0 : Int32).toNatClampNeg (0)))))]) (w1 := [(y0, .inr (10, [.int 0, .ref m1, .int 0, .int 0, .int 0, .int (-1), .int 0, .int 0, .ref m8, .int 0, .int 0, .ref m11, .ref m12, .ref m13, .ref m14, .ref m15, .ref m16, .ref m17, .ref m18, .ref m19, .ref m20, .ref m21, .int 0, .int 0, .int 0, .ref m25, .ref m26, .int 0, .int 0, .ref m29, .ref m30, .ref m31, .ref m32, .int 0, .ref m34, .ref m35, .ref m36, .ref m37, .int 0, .int 0, .ref m40, .ref m41, .ref m42, .ref m43, .ref m44, .ref m45, .ref m46, .ref m47, .ref m48, .ref m49, .ref m50, .ref m51, .ref m52]))]) hP hD [0, 1, 2] [3] rfl rfl (by decide) (by decide) hk1 hFc hP1 hD1
  have hK := hK.app hK1
  generalize H1 = H at hP hS ⊢
  have hP : va_P (dC, dI) vwCl [(o0, .inl (co, 1, .inr (.inl (vp_updL (fun _ => 0) (0 : Int32).toNatClampNeg (0))))), (y0, .inr (10, [.int 0, .ref m1, .int 0, .int 0, .int 0, .int (-1), .int 0, .int 0, .ref m8, .int 0, .int 0, .ref m11, .ref m12, .ref m13, .ref m14, .ref m15, .ref m16, .ref m17, .ref m18, .ref m19, .ref m20, .ref m21, .int 0, .int 0, .int 0, .ref m25, .ref m26, .int 0, .int 0, .ref m29, .ref m30, .ref m31, .ref m32, .int 0, .ref m34, .ref m35, .ref m36, .ref m37, .int 0, .int 0, .ref m40, .ref m41, .ref m42, .ref m43, .ref m44, .ref m45, .ref m46, .ref m47, .ref m48, .ref m49, .ref m50, .ref m51, .ref m52]))] H := hP
  have hD : va_D A [(o0, .inl (co, 1, .inr (.inl (vp_updL (fun _ => 0) (0 : Int32).toNatClampNeg (0))))), (y0, .inr (10, [.int 0, .ref m1, .int 0, .int 0, .int 0, .int (-1), .int 0, .int 0, .ref m8, .int 0, .int 0, .ref m11, .ref m12, .ref m13, .ref m14, .ref m15, .ref m16, .ref m17, .ref m18, .ref m19, .ref m20, .ref m21, .int 0, .int 0, .int 0, .ref m25, .ref m26, .int 0, .int 0, .ref m29, .ref m30, .ref m31, .ref m32, .int 0, .ref m34, .ref m35, .ref m36, .ref m37, .int 0, .int 0, .ref m40, .ref m41, .ref m42, .ref m43, .ref m44, .ref m45, .ref m46, .ref m47, .ref m48, .ref m49, .ref m50, .ref m51, .ref m52]))] := hD
  have hK : va_K (dC, dI) vwCl [(crf, .int), (cnd, .int), (co, .long), (co, .long)] s := hK
  refine W.widen (k := 6559) (n := 850824) (by omega) (by omega) ?_
  obtain rfl : r102 = 0 := hw
  refine lv_istore (lv' := [(6, .int 0), (5, .int 0), (4, .int 0), (3, .ref o0), (2, .ref y0), (1, .ref x0), (0, .ref b)]) hx hb dL_law_1708 hl (by decide) rfl (fun ls hl => ?_)
  refine lv_aload_n hx hb dL_law_1710 rfl (lv_at hl 4 rfl) ?_
  have hPc := hP.sub (ws' := [(y0, .inr (10, [.int 0, .ref m1, .int 0, .int 0, .int 0, .int (-1), .int 0, .int 0, .ref m8, .int 0, .int 0, .ref m11, .ref m12, .ref m13, .ref m14, .ref m15, .ref m16, .ref m17, .ref m18, .ref m19, .ref m20, .ref m21, .int 0, .int 0, .int 0, .ref m25, .ref m26, .int 0, .int 0, .ref m29, .ref m30, .ref m31, .ref m32, .int 0, .ref m34, .ref m35, .ref m36, .ref m37, .int 0, .int 0, .ref m40, .ref m41, .ref m42, .ref m43, .ref m44, .ref m45, .ref m46, .ref m47, .ref m48, .ref m49, .ref m50, .ref m51, .ref m52]))]) [1] rfl
  have hDc := hD.sub (ws' := [(y0, .inr (10, [.int 0, .ref m1, .int 0, .int 0, .int 0, .int (-1), .int 0, .int 0, .ref m8, .int 0, .int 0, .ref m11, .ref m12, .ref m13, .ref m14, .ref m15, .ref m16, .ref m17, .ref m18, .ref m19, .ref m20, .ref m21, .int 0, .int 0, .int 0, .ref m25, .ref m26, .int 0, .int 0, .ref m29, .ref m30, .ref m31, .ref m32, .int 0, .ref m34, .ref m35, .ref m36, .ref m37, .int 0, .int 0, .ref m40, .ref m41, .ref m42, .ref m43, .ref m44, .ref m45, .ref m46, .ref m47, .ref m48, .ref m49, .ref m50, .ref m51, .ref m52]))]) [1] (by decide) rfl
  have hKc := hK.sub (tys' := []) [] rfl
  have hFc := va_free (wc := [(y0, .inr (10, [.int 0, .ref m1, .int 0, .int 0, .int 0, .int (-1), .int 0, .int 0, .ref m8, .int 0, .int 0, .ref m11, .ref m12, .ref m13, .ref m14, .ref m15, .ref m16, .ref m17, .ref m18, .ref m19, .ref m20, .ref m21, .int 0, .int 0, .int 0, .ref m25, .ref m26, .int 0, .int 0, .ref m29, .ref m30, .ref m31, .ref m32, .int 0, .ref m34, .ref m35, .ref m36, .ref m37, .int 0, .int 0, .ref m40, .ref m41, .ref m42, .ref m43, .ref m44, .ref m45, .ref m46, .ref m47, .ref m48, .ref m49, .ref m50, .ref m51, .ref m52]))]) hD hS hA [1] rfl
  refine va_calli (va_runV (As := []) (rest := []) ⟨hx, hb, hml, hown, hts⟩ (m_thrown l dC dI H.size (y0) (0) (m1) (0) (0) (0) ((-1)) (0) (0) (m8) (0) (0) (m11) (m12) (m13) (m14) (m15) (m16) (m17) (m18) (m19) (m20) (m21) (0) (0) (0) (m25) (m26) (0) (0) (m29) (m30) (m31) (m32) (0) (m34) (m35) (m36) (m37) (0) (0) (m40) (m41) (m42) (m43) (m44) (m45) (m46) (m47) (m48) (m49) (m50) (m51) (m52)) (cwV 0 hts (gV_G k1327 k1328 k1329 k13 k1330) rfl rfl rfl (by decide +kernel) ⟨Nat.le_of_ble_eq_true rfl, Nat.le_of_ble_eq_true rfl⟩) ⟨fun a U g mk q => by obtain ⟨q0, q1, qP, qK, qD⟩ := q; exact ⟨q0, q1, qP, va_K.moved (u := U) (U := U.calling g mk a) (Vm.Alike.refl U.vm) qK, qD⟩, va_recv hKc hPc (ci := 10) (q0 := 0) rfl rfl, fun U hU hW => ⟨rfl, by rw [hU], by rw [hU]; exact hPc, va_K.moved hW.alike hKc, hDc.weaken (fun _ _ _ _ => trivial)⟩⟩ rfl rfl hl.1 rfl (lv_room (Nat.le_of_ble_eq_true rfl)) dL_law_1711 ⟨Nat.le_of_ble_eq_true rfl, Nat.le_of_ble_eq_true rfl⟩) hS (fun q _ h => hFc q h) hFc (fun r103 u t H1 locs ht hvm hw hB hz1 hk1 hS => ?_)
  obtain ⟨hP1, hK1, hD1⟩ := hB
  rw [ht] at hP1
  have hK1 := va_K.moved hvm.symm hK1
  try dsimp only at hw
  obtain ⟨hP, hD⟩ := va_join (wr := [(o0, .inl (co, 1, .inr (.inl (vp_updL (fun _ => 0) (0 : Int32).toNatClampNeg (0)))))]) (w1 := []) hP hD [1] [0] rfl rfl (by decide) (by decide) hk1 hFc hP1 hD1
  have hK := hK.app hK1
  generalize H1 = H at hP hS ⊢
  have hP : va_P (dC, dI) vwCl [(o0, .inl (co, 1, .inr (.inl (vp_updL (fun _ => 0) (0 : Int32).toNatClampNeg (0)))))] H := hP
  have hD : va_D A [(o0, .inl (co, 1, .inr (.inl (vp_updL (fun _ => 0) (0 : Int32).toNatClampNeg (0)))))] := hD
  have hK : va_K (dC, dI) vwCl [(crf, .int), (cnd, .int), (co, .long), (co, .long)] s := hK
  refine W.widen (k := 6559) (n := 850824) (by omega) (by omega) ?_
  obtain rfl : r103 = 0 := hw
  refine lv_iload hx hb dL_law_1714 (lv_at hl 1 rfl) ?_
  refine lv_icmp_eq (tgt := 1721) hx hb dL_law_1716 (by decide) (fun _ => ?_) (fun c9 => absurd (by decide +kernel) c9)
  refine lv_iload hx hb dL_law_1721 (lv_at hl 1 rfl) ?_
  refine lv_if_ne (tgt := 1738) hx hb dL_law_1723 (by decide) (fun c9 => absurd (by decide +kernel) c9) (fun _ => ?_)
  refine lv_aload_n hx hb dL_law_1726 rfl (lv_at hl 3 rfl) ?_
  refine lv_iconst (v := 0) hx hb dL_law_1727 (by decide) ?_
  refine va_lald hx hb hK hP 0 2 rfl rfl (by unfold vp_in; decide +kernel) dL_law_1728 ?_
  refine lv_topl (fun y9 ey9 => ?_)
  obtain rfl : y9 = 0 := ey9.trans pk_uLs
  refine lv_iload hx hb dL_law_1729 (lv_at hl 0 rfl) ?_
  refine lv_i2l (v := 0) hx hb dL_law_1731 (by decide +kernel) ?_
  refine x_lcmp0 hx hb dL_law_1732 ?_
  refine lv_if_eq (tgt := 1738) hx hb dL_law_1733 (by decide) (fun _ => ?_) (fun c9 => absurd (by decide +kernel) c9)
  refine lv_goto (tgt := 2301) hx hb dL_law_1738 (by decide) ?_
  refine W.widen (k := 6567) (n := 850872) (by omega) (by omega) ?_
  exact hend H locs ls hS (lv_sub hl [2, 6] rfl)
set_option maxHeartbeats 4000000 in
set_option maxRecDepth 100000 in
theorem lc_firmX {p : Program} {l : Launch} {e : Env} {s : State} {m : MethodId} {below : List Frame} {meth : Method} {c : Code} {dC : Nat → ClassId} {dI : Nat → Nat → Nat} {A : Nat → Prop} {b : Nat} {xs : Nat → Int32} (C0 : lx_C p l s m c A b xs) {x0 w1 w6 w8 w15 w22 w26 w31 w35 w40 w48 w50 w52 y0 m1 m8 m11 m12 m13 m14 m15 m16 m17 m18 m19 m20 m21 m25 m26 m29 m30 m31 m32 m34 m35 m36 m37 m40 m41 m42 m43 m44 m45 m46 m47 m48 m49 m50 m51 m52 o0 : Nat} {d53 crf co : ClassId}  {v1 : Int32} (hs1 : xs (1 : Int32).toNatClampNeg = v1) (hq : ¬ (¬ v1 < 0 ∧ ¬ (2 : Int32) < v1))
    (hend : ∀ (H : Heap) (locs : List Loc) (ls : Array Slot), va_S A s.heap H locs → lv_has ls 7 [(4, .int 0), (0, .ref b)] → W p l e room_1 s m #[Value.ref b] below meth c H locs 6567 850872 (lw_Z below #[Value.ref b] s) (F0 m 2301 ls []))
    {H : Heap} {locs : List Loc} {ls : Array Slot} (hP : va_P (dC, dI) vwCl [(x0, .inr (9, [.ref w1, .ref w6, .int 0, .ref w8, .ref w15, .int 0, .int 0, .ref w22, .ref w26, .ref w31, .ref w35, .ref w40, .ref w48, .ref w50, .ref w52])), (w52, .inl (d53, 3, .inl (fun _ => 0))), (y0, .inr (10, [.int 0, .ref m1, .int 0, .int 0, .int 0, .int (-1), .int 0, .int 0, .ref m8, .int 0, .int 0, .ref m11, .ref m12, .ref m13, .ref m14, .ref m15, .ref m16, .ref m17, .ref m18, .ref m19, .ref m20, .ref m21, .int 0, .int 0, .int 0, .ref m25, .ref m26, .int 0, .int 0, .ref m29, .ref m30, .ref m31, .ref m32, .int 0, .ref m34, .ref m35, .ref m36, .ref m37, .int 0, .int 0, .ref m40, .ref m41, .ref m42, .ref m43, .ref m44, .ref m45, .ref m46, .ref m47, .ref m48, .ref m49, .ref m50, .ref m51, .ref m52])), (m1, .inl (crf, 3, .inl (fun _ => 0))), (o0, .inl (co, 1, .inr (.inl (fun _ => 0))))] H) (hD : va_D A [(x0, .inr (9, [.ref w1, .ref w6, .int 0, .ref w8, .ref w15, .int 0, .int 0, .ref w22, .ref w26, .ref w31, .ref w35, .ref w40, .ref w48, .ref w50, .ref w52])), (w52, .inl (d53, 3, .inl (fun _ => 0))), (y0, .inr (10, [.int 0, .ref m1, .int 0, .int 0, .int 0, .int (-1), .int 0, .int 0, .ref m8, .int 0, .int 0, .ref m11, .ref m12, .ref m13, .ref m14, .ref m15, .ref m16, .ref m17, .ref m18, .ref m19, .ref m20, .ref m21, .int 0, .int 0, .int 0, .ref m25, .ref m26, .int 0, .int 0, .ref m29, .ref m30, .ref m31, .ref m32, .int 0, .ref m34, .ref m35, .ref m36, .ref m37, .int 0, .int 0, .ref m40, .ref m41, .ref m42, .ref m43, .ref m44, .ref m45, .ref m46, .ref m47, .ref m48, .ref m49, .ref m50, .ref m51, .ref m52])), (m1, .inl (crf, 3, .inl (fun _ => 0))), (o0, .inl (co, 1, .inr (.inl (fun _ => 0))))]) (hK : va_K (dC, dI) vwCl [(d53, .int), (crf, .int), (co, .long)] s) (hS : va_S A s.heap H locs) (hl : lv_has ls 7 [(4, .int 0), (3, .ref o0), (2, .ref y0), (1, .ref x0), (0, .ref b)]) : W p l e room_1 s m #[Value.ref b] below meth c H locs 6559 850824 (lw_Z below #[Value.ref b] s) (F0 m 1685 ls []) := by
  obtain ⟨hfl, hx, hb, hml, hown, hts, hX, hbl, hbA, hA, hEx, hNc⟩ := C0
  refine lv_aload_n hx hb dL_law_1685 rfl (lv_at hl 3 rfl) ?_
  refine lv_aload_n hx hb dL_law_1686 rfl (lv_at hl 4 rfl) ?_
  refine lv_iload hx hb dL_law_1687 (lv_at hl 0 rfl) ?_
  refine lv_iconst (v := 1) hx hb dL_law_1689 (by decide) ?_
  refine lv_iadd hx hb dL_law_1690 ?_
  refine lv_topi (fun x9 ex9 => ?_)
  obtain rfl : x9 = 1 := ex9.trans (by decide +kernel)
  refine va_sld hx hb hX hbl hbA hS (by unfold vp_in; decide +kernel) dL_law_1691 ?_
  refine lv_topi (fun x9 ex9 => ?_)
  obtain rfl : v1 = x9 := (ex9.trans hs1).symm
  refine lv_aload_n hx hb dL_law_1692 rfl (lv_at hl 1 rfl) ?_
  have hPc := hP.sub (ws' := [(x0, .inr (9, [.ref w1, .ref w6, .int 0, .ref w8, .ref w15, .int 0, .int 0, .ref w22, .ref w26, .ref w31, .ref w35, .ref w40, .ref w48, .ref w50, .ref w52])), (w52, .inl (d53, 3, .inl (fun _ => 0))), (o0, .inl (co, 1, .inr (.inl (fun _ => 0))))]) [0, 1, 4] rfl
  have hDc := hD.sub (ws' := [(x0, .inr (9, [.ref w1, .ref w6, .int 0, .ref w8, .ref w15, .int 0, .int 0, .ref w22, .ref w26, .ref w31, .ref w35, .ref w40, .ref w48, .ref w50, .ref w52])), (w52, .inl (d53, 3, .inl (fun _ => 0))), (o0, .inl (co, 1, .inr (.inl (fun _ => 0))))]) [0, 1, 4] (by decide) rfl
  have hKc := hK.sub (tys' := [(d53, .int), (co, .long)]) [0, 2] rfl
  have hFc := va_free (wc := [(x0, .inr (9, [.ref w1, .ref w6, .int 0, .ref w8, .ref w15, .int 0, .int 0, .ref w22, .ref w26, .ref w31, .ref w35, .ref w40, .ref w48, .ref w50, .ref w52])), (w52, .inl (d53, 3, .inl (fun _ => 0))), (o0, .inl (co, 1, .inr (.inl (fun _ => 0))))]) hD hS hA [0, 1, 4] rfl
  refine va_calli (vx_runSW (hh := [(0, 9, 12, 13)]) (As := [.ref x0, .int v1, .ref o0]) (rest := []) ⟨hx, hb, hml, hown, hts⟩ (w_xfirm l hfl dC dI H.size (x0) (w1) (w6) (w8) (w15) (w22) (w26) (w31) (w35) (w40) (w48) (w50) (w52) (d53) (o0) (co) (v1) (hq)) (vx_cwSW 3 hts (gW_G k1085 k1086 k0 k1087) rfl rfl rfl (by decide +kernel) ⟨Nat.le_of_ble_eq_true rfl, Nat.le_of_ble_eq_true rfl⟩) ⟨fun a U g mk q => by obtain ⟨q0, q1, qP, qK, qD, qE⟩ := q; exact ⟨q0, q1, qP, va_K.moved (u := U) (U := U.calling g mk a) (Vm.Alike.refl U.vm) qK, qD, xX_call qE⟩, fun U hU hW => ⟨rfl, by rw [hU], by rw [hU]; exact hPc, va_K.moved hW.alike hKc, hDc.weaken (fun _ _ _ _ => trivial), xX_at hEx hS (fun q h => hFc q h) hU hW⟩⟩ rfl rfl hl.1 rfl (lv_room (Nat.le_of_ble_eq_true rfl)) dL_law_1693 ⟨Nat.le_of_ble_eq_true rfl, Nat.le_of_ble_eq_true rfl⟩) hS (fun q _ h => hFc q h) hFc (fun r101 u t H1 locs ht hvm hw hB hz1 hk1 hS => ?_)
  obtain ⟨hP1, hK1, hD1⟩ := hB
  rw [ht] at hP1
  have hK1 := va_K.moved hvm.symm hK1
  try dsimp only at hw
  obtain ⟨hP, hD⟩ := va_join (wr := [(y0, .inr (10, [.int 0, .ref m1, .int 0, .int 0, .int 0, .int (-1), .int 0, .int 0, .ref m8, .int 0, .int 0, .ref m11, .ref m12, .ref m13, .ref m14, .ref m15, .ref m16, .ref m17, .ref m18, .ref m19, .ref m20, .ref m21, .int 0, .int 0, .int 0, .ref m25, .ref m26, .int 0, .int 0, .ref m29, .ref m30, .ref m31, .ref m32, .int 0, .ref m34, .ref m35, .ref m36, .ref m37, .int 0, .int 0, .ref m40, .ref m41, .ref m42, .ref m43, .ref m44, .ref m45, .ref m46, .ref m47, .ref m48, .ref m49, .ref m50, .ref m51, .ref m52])), (m1, .inl (crf, 3, .inl (fun _ => 0)))]) (w1 := []) hP hD [0, 1, 4] [2, 3] rfl rfl (by decide) (by decide) hk1 hFc hP1 hD1
  have hK := hK.app hK1
  generalize H1 = H at hP hS ⊢
  have hP : va_P (dC, dI) vwCl [(y0, .inr (10, [.int 0, .ref m1, .int 0, .int 0, .int 0, .int (-1), .int 0, .int 0, .ref m8, .int 0, .int 0, .ref m11, .ref m12, .ref m13, .ref m14, .ref m15, .ref m16, .ref m17, .ref m18, .ref m19, .ref m20, .ref m21, .int 0, .int 0, .int 0, .ref m25, .ref m26, .int 0, .int 0, .ref m29, .ref m30, .ref m31, .ref m32, .int 0, .ref m34, .ref m35, .ref m36, .ref m37, .int 0, .int 0, .ref m40, .ref m41, .ref m42, .ref m43, .ref m44, .ref m45, .ref m46, .ref m47, .ref m48, .ref m49, .ref m50, .ref m51, .ref m52])), (m1, .inl (crf, 3, .inl (fun _ => 0)))] H := hP
  have hD : va_D A [(y0, .inr (10, [.int 0, .ref m1, .int 0, .int 0, .int 0, .int (-1), .int 0, .int 0, .ref m8, .int 0, .int 0, .ref m11, .ref m12, .ref m13, .ref m14, .ref m15, .ref m16, .ref m17, .ref m18, .ref m19, .ref m20, .ref m21, .int 0, .int 0, .int 0, .ref m25, .ref m26, .int 0, .int 0, .ref m29, .ref m30, .ref m31, .ref m32, .int 0, .ref m34, .ref m35, .ref m36, .ref m37, .int 0, .int 0, .ref m40, .ref m41, .ref m42, .ref m43, .ref m44, .ref m45, .ref m46, .ref m47, .ref m48, .ref m49, .ref m50, .ref m51, .ref m52])), (m1, .inl (crf, 3, .inl (fun _ => 0)))] := hD
  have hK : va_K (dC, dI) vwCl [(d53, .int), (crf, .int), (co, .long)] s := hK
  refine W.widen (k := 6561) (n := 850836) (by omega) (by omega) ?_
  obtain rfl : r101 = 1 := hw
  refine lv_istore (lv' := [(5, .int 1), (4, .int 0), (3, .ref o0), (2, .ref y0), (1, .ref x0), (0, .ref b)]) hx hb dL_law_1696 hl (by decide) rfl (fun ls hl => ?_)
  refine lv_aload_n hx hb dL_law_1698 rfl (lv_at hl 3 rfl) ?_
  refine lv_aload_n hx hb dL_law_1699 rfl (lv_at hl 5 rfl) ?_
  refine lv_iload hx hb dL_law_1700 (lv_at hl 1 rfl) ?_
  refine lv_iconst (v := 1) hx hb dL_law_1702 (by decide) ?_
  refine lv_iadd hx hb dL_law_1703 ?_
  refine lv_topi (fun x9 ex9 => ?_)
  obtain rfl : x9 = 1 := ex9.trans (by decide +kernel)
  refine va_sld hx hb hX hbl hbA hS (by unfold vp_in; decide +kernel) dL_law_1704 ?_
  refine lv_topi (fun x9 ex9 => ?_)
  obtain rfl : v1 = x9 := (ex9.trans hs1).symm
  have hPc := hP.sub (ws' := [(y0, .inr (10, [.int 0, .ref m1, .int 0, .int 0, .int 0, .int (-1), .int 0, .int 0, .ref m8, .int 0, .int 0, .ref m11, .ref m12, .ref m13, .ref m14, .ref m15, .ref m16, .ref m17, .ref m18, .ref m19, .ref m20, .ref m21, .int 0, .int 0, .int 0, .ref m25, .ref m26, .int 0, .int 0, .ref m29, .ref m30, .ref m31, .ref m32, .int 0, .ref m34, .ref m35, .ref m36, .ref m37, .int 0, .int 0, .ref m40, .ref m41, .ref m42, .ref m43, .ref m44, .ref m45, .ref m46, .ref m47, .ref m48, .ref m49, .ref m50, .ref m51, .ref m52])), (m1, .inl (crf, 3, .inl (fun _ => 0)))]) [0, 1] rfl
  have hDc := hD.sub (ws' := [(y0, .inr (10, [.int 0, .ref m1, .int 0, .int 0, .int 0, .int (-1), .int 0, .int 0, .ref m8, .int 0, .int 0, .ref m11, .ref m12, .ref m13, .ref m14, .ref m15, .ref m16, .ref m17, .ref m18, .ref m19, .ref m20, .ref m21, .int 0, .int 0, .int 0, .ref m25, .ref m26, .int 0, .int 0, .ref m29, .ref m30, .ref m31, .ref m32, .int 0, .ref m34, .ref m35, .ref m36, .ref m37, .int 0, .int 0, .ref m40, .ref m41, .ref m42, .ref m43, .ref m44, .ref m45, .ref m46, .ref m47, .ref m48, .ref m49, .ref m50, .ref m51, .ref m52])), (m1, .inl (crf, 3, .inl (fun _ => 0)))]) [0, 1] (by decide) rfl
  have hKc := hK.sub (tys' := [(crf, .int)]) [1] rfl
  have hFc := va_free (wc := [(y0, .inr (10, [.int 0, .ref m1, .int 0, .int 0, .int 0, .int (-1), .int 0, .int 0, .ref m8, .int 0, .int 0, .ref m11, .ref m12, .ref m13, .ref m14, .ref m15, .ref m16, .ref m17, .ref m18, .ref m19, .ref m20, .ref m21, .int 0, .int 0, .int 0, .ref m25, .ref m26, .int 0, .int 0, .ref m29, .ref m30, .ref m31, .ref m32, .int 0, .ref m34, .ref m35, .ref m36, .ref m37, .int 0, .int 0, .ref m40, .ref m41, .ref m42, .ref m43, .ref m44, .ref m45, .ref m46, .ref m47, .ref m48, .ref m49, .ref m50, .ref m51, .ref m52])), (m1, .inl (crf, 3, .inl (fun _ => 0)))]) hD hS hA [0, 1] rfl
  refine va_calli (va_runV (As := [.int v1]) (rest := []) ⟨hx, hb, hml, hown, hts⟩ (m_xfirm l dC dI H.size (y0) (m1) (m8) (m11) (m12) (m13) (m14) (m15) (m16) (m17) (m18) (m19) (m20) (m21) (m25) (m26) (m29) (m30) (m31) (m32) (m34) (m35) (m36) (m37) (m40) (m41) (m42) (m43) (m44) (m45) (m46) (m47) (m48) (m49) (m50) (m51) (m52) (crf) (v1) (hq)) (cwV 1 hts (gV_G k1731 k1732 k1733 k13 k1734) rfl rfl rfl (by decide +kernel) ⟨Nat.le_of_ble_eq_true rfl, Nat.le_of_ble_eq_true rfl⟩) ⟨fun a U g mk q => by obtain ⟨q0, q1, qP, qK, qD⟩ := q; exact ⟨q0, q1, qP, va_K.moved (u := U) (U := U.calling g mk a) (Vm.Alike.refl U.vm) qK, qD⟩, va_recv hKc hPc (ci := 10) (q0 := 0) rfl rfl, fun U hU hW => ⟨rfl, by rw [hU], by rw [hU]; exact hPc, va_K.moved hW.alike hKc, hDc.weaken (fun _ _ _ _ => trivial)⟩⟩ rfl rfl hl.1 rfl (lv_room (Nat.le_of_ble_eq_true rfl)) dL_law_1705 ⟨Nat.le_of_ble_eq_true rfl, Nat.le_of_ble_eq_true rfl⟩) hS (fun q _ h => hFc q h) hFc (fun r102 u t H1 locs ht hvm hw hB hz1 hk1 hS => ?_)
  obtain ⟨hP1, hK1, hD1⟩ := hB
  rw [ht] at hP1
  have hK1 := va_K.moved hvm.symm hK1
  try dsimp only at hw
  obtain ⟨hP, hD⟩ := va_join (wr := []) (w1 := [(y0, .inr (10, [.int 1, .ref m1, .int 0, .int 0, .int 0, .int (-1), .int 0, .int 0, .ref m8, .int 0, .int 0, .ref m11, .ref m12, .ref m13, .ref m14, .ref m15, .ref m16, .ref m17, .ref m18, .ref m19, .ref m20, .ref m21, .int 0, .int 0, .int 0, .ref m25, .ref m26, .int 0, .int 0, .ref m29, .ref m30, .ref m31, .ref m32, .int 0, .ref m34, .ref m35, .ref m36, .ref m37, .int 0, .int 0, .ref m40, .ref m41, .ref m42, .ref m43, .ref m44, .ref m45, .ref m46, .ref m47, .ref m48, .ref m49, .ref m50, .ref m51, .ref m52]))]) hP hD [0, 1] [] rfl rfl (by decide) (by decide) hk1 hFc hP1 hD1
  have hK := hK.app hK1
  generalize H1 = H at hP hS ⊢
  have hP : va_P (dC, dI) vwCl [(y0, .inr (10, [.int 1, .ref m1, .int 0, .int 0, .int 0, .int (-1), .int 0, .int 0, .ref m8, .int 0, .int 0, .ref m11, .ref m12, .ref m13, .ref m14, .ref m15, .ref m16, .ref m17, .ref m18, .ref m19, .ref m20, .ref m21, .int 0, .int 0, .int 0, .ref m25, .ref m26, .int 0, .int 0, .ref m29, .ref m30, .ref m31, .ref m32, .int 0, .ref m34, .ref m35, .ref m36, .ref m37, .int 0, .int 0, .ref m40, .ref m41, .ref m42, .ref m43, .ref m44, .ref m45, .ref m46, .ref m47, .ref m48, .ref m49, .ref m50, .ref m51, .ref m52]))] H := hP
  have hD : va_D A [(y0, .inr (10, [.int 1, .ref m1, .int 0, .int 0, .int 0, .int (-1), .int 0, .int 0, .ref m8, .int 0, .int 0, .ref m11, .ref m12, .ref m13, .ref m14, .ref m15, .ref m16, .ref m17, .ref m18, .ref m19, .ref m20, .ref m21, .int 0, .int 0, .int 0, .ref m25, .ref m26, .int 0, .int 0, .ref m29, .ref m30, .ref m31, .ref m32, .int 0, .ref m34, .ref m35, .ref m36, .ref m37, .int 0, .int 0, .ref m40, .ref m41, .ref m42, .ref m43, .ref m44, .ref m45, .ref m46, .ref m47, .ref m48, .ref m49, .ref m50, .ref m51, .ref m52]))] := hD
  have hK : va_K (dC, dI) vwCl [(d53, .int), (crf, .int), (co, .long)] s := hK
  refine W.widen (k := 6561) (n := 850836) (by omega) (by omega) ?_
  obtain rfl : r102 = 0 := hw
  refine lv_istore (lv' := [(6, .int 0), (5, .int 1), (4, .int 0), (3, .ref o0), (2, .ref y0), (1, .ref x0), (0, .ref b)]) hx hb dL_law_1708 hl (by decide) rfl (fun ls hl => ?_)
  refine lv_aload_n hx hb dL_law_1710 rfl (lv_at hl 4 rfl) ?_
  have hPc := hP.sub (ws' := [(y0, .inr (10, [.int 1, .ref m1, .int 0, .int 0, .int 0, .int (-1), .int 0, .int 0, .ref m8, .int 0, .int 0, .ref m11, .ref m12, .ref m13, .ref m14, .ref m15, .ref m16, .ref m17, .ref m18, .ref m19, .ref m20, .ref m21, .int 0, .int 0, .int 0, .ref m25, .ref m26, .int 0, .int 0, .ref m29, .ref m30, .ref m31, .ref m32, .int 0, .ref m34, .ref m35, .ref m36, .ref m37, .int 0, .int 0, .ref m40, .ref m41, .ref m42, .ref m43, .ref m44, .ref m45, .ref m46, .ref m47, .ref m48, .ref m49, .ref m50, .ref m51, .ref m52]))]) [0] rfl
  have hDc := hD.sub (ws' := [(y0, .inr (10, [.int 1, .ref m1, .int 0, .int 0, .int 0, .int (-1), .int 0, .int 0, .ref m8, .int 0, .int 0, .ref m11, .ref m12, .ref m13, .ref m14, .ref m15, .ref m16, .ref m17, .ref m18, .ref m19, .ref m20, .ref m21, .int 0, .int 0, .int 0, .ref m25, .ref m26, .int 0, .int 0, .ref m29, .ref m30, .ref m31, .ref m32, .int 0, .ref m34, .ref m35, .ref m36, .ref m37, .int 0, .int 0, .ref m40, .ref m41, .ref m42, .ref m43, .ref m44, .ref m45, .ref m46, .ref m47, .ref m48, .ref m49, .ref m50, .ref m51, .ref m52]))]) [0] (by decide) rfl
  have hKc := hK.sub (tys' := []) [] rfl
  have hFc := va_free (wc := [(y0, .inr (10, [.int 1, .ref m1, .int 0, .int 0, .int 0, .int (-1), .int 0, .int 0, .ref m8, .int 0, .int 0, .ref m11, .ref m12, .ref m13, .ref m14, .ref m15, .ref m16, .ref m17, .ref m18, .ref m19, .ref m20, .ref m21, .int 0, .int 0, .int 0, .ref m25, .ref m26, .int 0, .int 0, .ref m29, .ref m30, .ref m31, .ref m32, .int 0, .ref m34, .ref m35, .ref m36, .ref m37, .int 0, .int 0, .ref m40, .ref m41, .ref m42, .ref m43, .ref m44, .ref m45, .ref m46, .ref m47, .ref m48, .ref m49, .ref m50, .ref m51, .ref m52]))]) hD hS hA [0] rfl
  refine va_calli (va_runV (As := []) (rest := []) ⟨hx, hb, hml, hown, hts⟩ (m_thrown l dC dI H.size (y0) (1) (m1) (0) (0) (0) ((-1)) (0) (0) (m8) (0) (0) (m11) (m12) (m13) (m14) (m15) (m16) (m17) (m18) (m19) (m20) (m21) (0) (0) (0) (m25) (m26) (0) (0) (m29) (m30) (m31) (m32) (0) (m34) (m35) (m36) (m37) (0) (0) (m40) (m41) (m42) (m43) (m44) (m45) (m46) (m47) (m48) (m49) (m50) (m51) (m52)) (cwV 0 hts (gV_G k1327 k1328 k1329 k13 k1330) rfl rfl rfl (by decide +kernel) ⟨Nat.le_of_ble_eq_true rfl, Nat.le_of_ble_eq_true rfl⟩) ⟨fun a U g mk q => by obtain ⟨q0, q1, qP, qK, qD⟩ := q; exact ⟨q0, q1, qP, va_K.moved (u := U) (U := U.calling g mk a) (Vm.Alike.refl U.vm) qK, qD⟩, va_recv hKc hPc (ci := 10) (q0 := 0) rfl rfl, fun U hU hW => ⟨rfl, by rw [hU], by rw [hU]; exact hPc, va_K.moved hW.alike hKc, hDc.weaken (fun _ _ _ _ => trivial)⟩⟩ rfl rfl hl.1 rfl (lv_room (Nat.le_of_ble_eq_true rfl)) dL_law_1711 ⟨Nat.le_of_ble_eq_true rfl, Nat.le_of_ble_eq_true rfl⟩) hS (fun q _ h => hFc q h) hFc (fun r103 u t H1 locs ht hvm hw hB hz1 hk1 hS => ?_)
  obtain ⟨hP1, hK1, hD1⟩ := hB
  rw [ht] at hP1
  have hK1 := va_K.moved hvm.symm hK1
  try dsimp only at hw
  obtain ⟨hP, hD⟩ := va_join (wr := []) (w1 := []) hP hD [0] [] rfl rfl (by decide) (by decide) hk1 hFc hP1 hD1
  have hK := hK.app hK1
  generalize H1 = H at hP hS ⊢
  have hP : va_P (dC, dI) vwCl [] H := hP
  have hD : va_D A [] := hD
  have hK : va_K (dC, dI) vwCl [(d53, .int), (crf, .int), (co, .long)] s := hK
  refine W.widen (k := 6561) (n := 850836) (by omega) (by omega) ?_
  obtain rfl : r103 = 1 := hw
  refine lv_iload hx hb dL_law_1714 (lv_at hl 1 rfl) ?_
  refine lv_icmp_eq (tgt := 1721) hx hb dL_law_1716 (by decide) (fun _ => ?_) (fun c9 => absurd (by decide +kernel) c9)
  refine lv_iload hx hb dL_law_1721 (lv_at hl 1 rfl) ?_
  refine lv_if_ne (tgt := 1738) hx hb dL_law_1723 (by decide) (fun _ => ?_) (fun c9 => absurd c9 (by decide +kernel))
  refine lv_goto (tgt := 2301) hx hb dL_law_1738 (by decide) ?_
  refine W.widen (k := 6567) (n := 850872) (by omega) (by omega) ?_
  exact hend H locs ls hS (lv_sub hl [2, 6] rfl)
set_option maxHeartbeats 4000000 in
set_option maxRecDepth 100000 in
theorem lc_ordersS {p : Program} {l : Launch} {e : Env} {s : State} {m : MethodId} {below : List Frame} {meth : Method} {c : Code} {dC : Nat → ClassId} {dI : Nat → Nat → Nat} {A : Nat → Prop} {b : Nat} {xs : Nat → Int32} (C0 : lx_C p l s m c A b xs) {x0 w1 w6 w8 w15 w22 w26 w31 w35 w40 w48 w50 w52 y0 m1 m8 m11 m12 m13 m14 m15 m16 m17 m18 m19 m20 m21 m25 m26 m29 m30 m31 m32 m34 m35 m36 m37 m40 m41 m42 m43 m44 m45 m46 m47 m48 m49 m50 m51 m52 o0 : Nat} {d53 crf co : ClassId}  {v1 : Int32} (hs1 : xs (1 : Int32).toNatClampNeg = v1) (hq : ¬ v1 < 0 ∧ ¬ (3 : Int32) < v1)
    (hend : ∀ (H : Heap) (locs : List Loc) (ls : Array Slot), va_S A s.heap H locs → lv_has ls 7 [(4, .int 0), (0, .ref b)] → W p l e room_1 s m #[Value.ref b] below meth c H locs 6567 850872 (lw_Z below #[Value.ref b] s) (F0 m 2301 ls []))
    {H : Heap} {locs : List Loc} {ls : Array Slot} (hP : va_P (dC, dI) vwCl [(x0, .inr (9, [.ref w1, .ref w6, .int 0, .ref w8, .ref w15, .int 0, .int 0, .ref w22, .ref w26, .ref w31, .ref w35, .ref w40, .ref w48, .ref w50, .ref w52])), (w52, .inl (d53, 3, .inl (fun _ => 0))), (y0, .inr (10, [.int 0, .ref m1, .int 0, .int 0, .int 0, .int (-1), .int 0, .int 0, .ref m8, .int 0, .int 0, .ref m11, .ref m12, .ref m13, .ref m14, .ref m15, .ref m16, .ref m17, .ref m18, .ref m19, .ref m20, .ref m21, .int 0, .int 0, .int 0, .ref m25, .ref m26, .int 0, .int 0, .ref m29, .ref m30, .ref m31, .ref m32, .int 0, .ref m34, .ref m35, .ref m36, .ref m37, .int 0, .int 0, .ref m40, .ref m41, .ref m42, .ref m43, .ref m44, .ref m45, .ref m46, .ref m47, .ref m48, .ref m49, .ref m50, .ref m51, .ref m52])), (m1, .inl (crf, 3, .inl (fun _ => 0))), (o0, .inl (co, 1, .inr (.inl (fun _ => 0))))] H) (hD : va_D A [(x0, .inr (9, [.ref w1, .ref w6, .int 0, .ref w8, .ref w15, .int 0, .int 0, .ref w22, .ref w26, .ref w31, .ref w35, .ref w40, .ref w48, .ref w50, .ref w52])), (w52, .inl (d53, 3, .inl (fun _ => 0))), (y0, .inr (10, [.int 0, .ref m1, .int 0, .int 0, .int 0, .int (-1), .int 0, .int 0, .ref m8, .int 0, .int 0, .ref m11, .ref m12, .ref m13, .ref m14, .ref m15, .ref m16, .ref m17, .ref m18, .ref m19, .ref m20, .ref m21, .int 0, .int 0, .int 0, .ref m25, .ref m26, .int 0, .int 0, .ref m29, .ref m30, .ref m31, .ref m32, .int 0, .ref m34, .ref m35, .ref m36, .ref m37, .int 0, .int 0, .ref m40, .ref m41, .ref m42, .ref m43, .ref m44, .ref m45, .ref m46, .ref m47, .ref m48, .ref m49, .ref m50, .ref m51, .ref m52])), (m1, .inl (crf, 3, .inl (fun _ => 0))), (o0, .inl (co, 1, .inr (.inl (fun _ => 0))))]) (hK : va_K (dC, dI) vwCl [(d53, .int), (crf, .int), (co, .long)] s) (hS : va_S A s.heap H locs) (hl : lv_has ls 7 [(4, .int 0), (3, .ref o0), (2, .ref y0), (1, .ref x0), (0, .ref b)]) : W p l e room_1 s m #[Value.ref b] below meth c H locs 6559 850824 (lw_Z below #[Value.ref b] s) (F0 m 1616 ls []) := by
  obtain ⟨hfl, hx, hb, hml, hown, hts, hX, hbl, hbA, hA, hEx, hNc⟩ := C0
  refine lv_aload_n hx hb dL_law_1616 rfl (lv_at hl 3 rfl) ?_
  refine lv_aload_n hx hb dL_law_1617 rfl (lv_at hl 4 rfl) ?_
  refine lv_iload hx hb dL_law_1618 (lv_at hl 0 rfl) ?_
  refine lv_iconst (v := 1) hx hb dL_law_1620 (by decide) ?_
  refine lv_iadd hx hb dL_law_1621 ?_
  refine lv_topi (fun x9 ex9 => ?_)
  obtain rfl : x9 = 1 := ex9.trans (by decide +kernel)
  refine va_sld hx hb hX hbl hbA hS (by unfold vp_in; decide +kernel) dL_law_1622 ?_
  refine lv_topi (fun x9 ex9 => ?_)
  obtain rfl : v1 = x9 := (ex9.trans hs1).symm
  refine lv_aload_n hx hb dL_law_1623 rfl (lv_at hl 1 rfl) ?_
  have hPc := hP.sub (ws' := [(x0, .inr (9, [.ref w1, .ref w6, .int 0, .ref w8, .ref w15, .int 0, .int 0, .ref w22, .ref w26, .ref w31, .ref w35, .ref w40, .ref w48, .ref w50, .ref w52])), (w52, .inl (d53, 3, .inl (fun _ => 0))), (o0, .inl (co, 1, .inr (.inl (fun _ => 0))))]) [0, 1, 4] rfl
  have hDc := hD.sub (ws' := [(x0, .inr (9, [.ref w1, .ref w6, .int 0, .ref w8, .ref w15, .int 0, .int 0, .ref w22, .ref w26, .ref w31, .ref w35, .ref w40, .ref w48, .ref w50, .ref w52])), (w52, .inl (d53, 3, .inl (fun _ => 0))), (o0, .inl (co, 1, .inr (.inl (fun _ => 0))))]) [0, 1, 4] (by decide) rfl
  have hKc := hK.sub (tys' := [(d53, .int), (co, .long)]) [0, 2] rfl
  have hFc := va_free (wc := [(x0, .inr (9, [.ref w1, .ref w6, .int 0, .ref w8, .ref w15, .int 0, .int 0, .ref w22, .ref w26, .ref w31, .ref w35, .ref w40, .ref w48, .ref w50, .ref w52])), (w52, .inl (d53, 3, .inl (fun _ => 0))), (o0, .inl (co, 1, .inr (.inl (fun _ => 0))))]) hD hS hA [0, 1, 4] rfl
  refine va_calli (vx_runSW (hh := [(0, 9, 12, 13), (0, 9, 15, 15)]) (As := [.ref x0, .int v1, .ref o0]) (rest := []) ⟨hx, hb, hml, hown, hts⟩ (w_orders l hfl dC dI H.size (x0) (w1) (w6) (w8) (w15) (w22) (w26) (w31) (w35) (w40) (w48) (w50) (w52) (d53) (o0) (co) (v1) (hq)) (vx_cwSW 3 hts (gW_G k1038 k1039 k0 k1040) rfl rfl rfl (by decide +kernel) ⟨Nat.le_of_ble_eq_true rfl, Nat.le_of_ble_eq_true rfl⟩) ⟨fun a U g mk q => by obtain ⟨q0, q1, qP, qK, qD, qE⟩ := q; exact ⟨q0, q1, qP, va_K.moved (u := U) (U := U.calling g mk a) (Vm.Alike.refl U.vm) qK, qD, xX_call qE.1, qE.2⟩, fun U hU hW => ⟨rfl, by rw [hU], by rw [hU]; exact hPc, va_K.moved hW.alike hKc, hDc.weaken (fun _ _ _ _ => trivial), xX_at hEx hS (fun q h => hFc q h) hU hW, hNc.moved hW.alike⟩⟩ rfl rfl hl.1 rfl (lv_room (Nat.le_of_ble_eq_true rfl)) dL_law_1624 ⟨Nat.le_of_ble_eq_true rfl, Nat.le_of_ble_eq_true rfl⟩) hS (fun q _ h => hFc q h) hFc (fun r101 u t H1 locs ht hvm hw hB hz1 hk1 hS => ?_)
  obtain ⟨hP1, hK1, hD1⟩ := hB
  rw [ht] at hP1
  have hK1 := va_K.moved hvm.symm hK1
  try dsimp only at hw
  obtain ⟨hP, hD⟩ := va_join (wr := [(y0, .inr (10, [.int 0, .ref m1, .int 0, .int 0, .int 0, .int (-1), .int 0, .int 0, .ref m8, .int 0, .int 0, .ref m11, .ref m12, .ref m13, .ref m14, .ref m15, .ref m16, .ref m17, .ref m18, .ref m19, .ref m20, .ref m21, .int 0, .int 0, .int 0, .ref m25, .ref m26, .int 0, .int 0, .ref m29, .ref m30, .ref m31, .ref m32, .int 0, .ref m34, .ref m35, .ref m36, .ref m37, .int 0, .int 0, .ref m40, .ref m41, .ref m42, .ref m43, .ref m44, .ref m45, .ref m46, .ref m47, .ref m48, .ref m49, .ref m50, .ref m51, .ref m52])), (m1, .inl (crf, 3, .inl (fun _ => 0)))]) (w1 := []) hP hD [0, 1, 4] [2, 3] rfl rfl (by decide) (by decide) hk1 hFc hP1 hD1
  have hK := hK.app hK1
  generalize H1 = H at hP hS ⊢
  have hP : va_P (dC, dI) vwCl [(y0, .inr (10, [.int 0, .ref m1, .int 0, .int 0, .int 0, .int (-1), .int 0, .int 0, .ref m8, .int 0, .int 0, .ref m11, .ref m12, .ref m13, .ref m14, .ref m15, .ref m16, .ref m17, .ref m18, .ref m19, .ref m20, .ref m21, .int 0, .int 0, .int 0, .ref m25, .ref m26, .int 0, .int 0, .ref m29, .ref m30, .ref m31, .ref m32, .int 0, .ref m34, .ref m35, .ref m36, .ref m37, .int 0, .int 0, .ref m40, .ref m41, .ref m42, .ref m43, .ref m44, .ref m45, .ref m46, .ref m47, .ref m48, .ref m49, .ref m50, .ref m51, .ref m52])), (m1, .inl (crf, 3, .inl (fun _ => 0)))] H := hP
  have hD : va_D A [(y0, .inr (10, [.int 0, .ref m1, .int 0, .int 0, .int 0, .int (-1), .int 0, .int 0, .ref m8, .int 0, .int 0, .ref m11, .ref m12, .ref m13, .ref m14, .ref m15, .ref m16, .ref m17, .ref m18, .ref m19, .ref m20, .ref m21, .int 0, .int 0, .int 0, .ref m25, .ref m26, .int 0, .int 0, .ref m29, .ref m30, .ref m31, .ref m32, .int 0, .ref m34, .ref m35, .ref m36, .ref m37, .int 0, .int 0, .ref m40, .ref m41, .ref m42, .ref m43, .ref m44, .ref m45, .ref m46, .ref m47, .ref m48, .ref m49, .ref m50, .ref m51, .ref m52])), (m1, .inl (crf, 3, .inl (fun _ => 0)))] := hD
  have hK : va_K (dC, dI) vwCl [(d53, .int), (crf, .int), (co, .long)] s := hK
  refine W.widen (k := 6561) (n := 850836) (by omega) (by omega) ?_
  obtain rfl : r101 = 2 := hw
  refine lv_istore (lv' := [(5, .int 2), (4, .int 0), (3, .ref o0), (2, .ref y0), (1, .ref x0), (0, .ref b)]) hx hb dL_law_1627 hl (by decide) rfl (fun ls hl => ?_)
  refine lv_aload_n hx hb dL_law_1629 rfl (lv_at hl 3 rfl) ?_
  refine lv_aload_n hx hb dL_law_1630 rfl (lv_at hl 5 rfl) ?_
  refine lv_iload hx hb dL_law_1631 (lv_at hl 1 rfl) ?_
  refine lv_iconst (v := 1) hx hb dL_law_1633 (by decide) ?_
  refine lv_iadd hx hb dL_law_1634 ?_
  refine lv_topi (fun x9 ex9 => ?_)
  obtain rfl : x9 = 1 := ex9.trans (by decide +kernel)
  refine va_sld hx hb hX hbl hbA hS (by unfold vp_in; decide +kernel) dL_law_1635 ?_
  refine lv_topi (fun x9 ex9 => ?_)
  obtain rfl : v1 = x9 := (ex9.trans hs1).symm
  have hPc := hP.sub (ws' := [(y0, .inr (10, [.int 0, .ref m1, .int 0, .int 0, .int 0, .int (-1), .int 0, .int 0, .ref m8, .int 0, .int 0, .ref m11, .ref m12, .ref m13, .ref m14, .ref m15, .ref m16, .ref m17, .ref m18, .ref m19, .ref m20, .ref m21, .int 0, .int 0, .int 0, .ref m25, .ref m26, .int 0, .int 0, .ref m29, .ref m30, .ref m31, .ref m32, .int 0, .ref m34, .ref m35, .ref m36, .ref m37, .int 0, .int 0, .ref m40, .ref m41, .ref m42, .ref m43, .ref m44, .ref m45, .ref m46, .ref m47, .ref m48, .ref m49, .ref m50, .ref m51, .ref m52])), (m1, .inl (crf, 3, .inl (fun _ => 0)))]) [0, 1] rfl
  have hDc := hD.sub (ws' := [(y0, .inr (10, [.int 0, .ref m1, .int 0, .int 0, .int 0, .int (-1), .int 0, .int 0, .ref m8, .int 0, .int 0, .ref m11, .ref m12, .ref m13, .ref m14, .ref m15, .ref m16, .ref m17, .ref m18, .ref m19, .ref m20, .ref m21, .int 0, .int 0, .int 0, .ref m25, .ref m26, .int 0, .int 0, .ref m29, .ref m30, .ref m31, .ref m32, .int 0, .ref m34, .ref m35, .ref m36, .ref m37, .int 0, .int 0, .ref m40, .ref m41, .ref m42, .ref m43, .ref m44, .ref m45, .ref m46, .ref m47, .ref m48, .ref m49, .ref m50, .ref m51, .ref m52])), (m1, .inl (crf, 3, .inl (fun _ => 0)))]) [0, 1] (by decide) rfl
  have hKc := hK.sub (tys' := [(crf, .int)]) [1] rfl
  have hFc := va_free (wc := [(y0, .inr (10, [.int 0, .ref m1, .int 0, .int 0, .int 0, .int (-1), .int 0, .int 0, .ref m8, .int 0, .int 0, .ref m11, .ref m12, .ref m13, .ref m14, .ref m15, .ref m16, .ref m17, .ref m18, .ref m19, .ref m20, .ref m21, .int 0, .int 0, .int 0, .ref m25, .ref m26, .int 0, .int 0, .ref m29, .ref m30, .ref m31, .ref m32, .int 0, .ref m34, .ref m35, .ref m36, .ref m37, .int 0, .int 0, .ref m40, .ref m41, .ref m42, .ref m43, .ref m44, .ref m45, .ref m46, .ref m47, .ref m48, .ref m49, .ref m50, .ref m51, .ref m52])), (m1, .inl (crf, 3, .inl (fun _ => 0)))]) hD hS hA [0, 1] rfl
  refine va_calli (va_runV (As := [.int v1]) (rest := []) ⟨hx, hb, hml, hown, hts⟩ (m_orders l dC dI H.size (y0) (m1) (m8) (m11) (m12) (m13) (m14) (m15) (m16) (m17) (m18) (m19) (m20) (m21) (m25) (m26) (m29) (m30) (m31) (m32) (m34) (m35) (m36) (m37) (m40) (m41) (m42) (m43) (m44) (m45) (m46) (m47) (m48) (m49) (m50) (m51) (m52) (crf) (v1) (hq)) (cwV 1 hts (gV_G k1711 k1712 k1713 k13 k1714) rfl rfl rfl (by decide +kernel) ⟨Nat.le_of_ble_eq_true rfl, Nat.le_of_ble_eq_true rfl⟩) ⟨fun a U g mk q => by obtain ⟨q0, q1, qP, qK, qD⟩ := q; exact ⟨q0, q1, qP, va_K.moved (u := U) (U := U.calling g mk a) (Vm.Alike.refl U.vm) qK, qD⟩, va_recv hKc hPc (ci := 10) (q0 := 0) rfl rfl, fun U hU hW => ⟨rfl, by rw [hU], by rw [hU]; exact hPc, va_K.moved hW.alike hKc, hDc.weaken (fun _ _ _ _ => trivial)⟩⟩ rfl rfl hl.1 rfl (lv_room (Nat.le_of_ble_eq_true rfl)) dL_law_1636 ⟨Nat.le_of_ble_eq_true rfl, Nat.le_of_ble_eq_true rfl⟩) hS (fun q _ h => hFc q h) hFc (fun r102 u t H1 locs ht hvm hw hB hz1 hk1 hS => ?_)
  obtain ⟨hP1, hK1, hD1⟩ := hB
  rw [ht] at hP1
  have hK1 := va_K.moved hvm.symm hK1
  try dsimp only at hw
  obtain ⟨hP, hD⟩ := va_join (wr := []) (w1 := [(y0, .inr (10, [.int 2, .ref m1, .int 0, .int 0, .int 0, .int (-1), .int 0, .int 0, .ref m8, .int 0, .int 0, .ref m11, .ref m12, .ref m13, .ref m14, .ref m15, .ref m16, .ref m17, .ref m18, .ref m19, .ref m20, .ref m21, .int 0, .int 0, .int 0, .ref m25, .ref m26, .int 0, .int 0, .ref m29, .ref m30, .ref m31, .ref m32, .int 0, .ref m34, .ref m35, .ref m36, .ref m37, .int 0, .int 0, .ref m40, .ref m41, .ref m42, .ref m43, .ref m44, .ref m45, .ref m46, .ref m47, .ref m48, .ref m49, .ref m50, .ref m51, .ref m52]))]) hP hD [0, 1] [] rfl rfl (by decide) (by decide) hk1 hFc hP1 hD1
  have hK := hK.app hK1
  generalize H1 = H at hP hS ⊢
  have hP : va_P (dC, dI) vwCl [(y0, .inr (10, [.int 2, .ref m1, .int 0, .int 0, .int 0, .int (-1), .int 0, .int 0, .ref m8, .int 0, .int 0, .ref m11, .ref m12, .ref m13, .ref m14, .ref m15, .ref m16, .ref m17, .ref m18, .ref m19, .ref m20, .ref m21, .int 0, .int 0, .int 0, .ref m25, .ref m26, .int 0, .int 0, .ref m29, .ref m30, .ref m31, .ref m32, .int 0, .ref m34, .ref m35, .ref m36, .ref m37, .int 0, .int 0, .ref m40, .ref m41, .ref m42, .ref m43, .ref m44, .ref m45, .ref m46, .ref m47, .ref m48, .ref m49, .ref m50, .ref m51, .ref m52]))] H := hP
  have hD : va_D A [(y0, .inr (10, [.int 2, .ref m1, .int 0, .int 0, .int 0, .int (-1), .int 0, .int 0, .ref m8, .int 0, .int 0, .ref m11, .ref m12, .ref m13, .ref m14, .ref m15, .ref m16, .ref m17, .ref m18, .ref m19, .ref m20, .ref m21, .int 0, .int 0, .int 0, .ref m25, .ref m26, .int 0, .int 0, .ref m29, .ref m30, .ref m31, .ref m32, .int 0, .ref m34, .ref m35, .ref m36, .ref m37, .int 0, .int 0, .ref m40, .ref m41, .ref m42, .ref m43, .ref m44, .ref m45, .ref m46, .ref m47, .ref m48, .ref m49, .ref m50, .ref m51, .ref m52]))] := hD
  have hK : va_K (dC, dI) vwCl [(d53, .int), (crf, .int), (co, .long)] s := hK
  refine W.widen (k := 6561) (n := 850836) (by omega) (by omega) ?_
  obtain rfl : r102 = 0 := hw
  refine lv_istore (lv' := [(6, .int 0), (5, .int 2), (4, .int 0), (3, .ref o0), (2, .ref y0), (1, .ref x0), (0, .ref b)]) hx hb dL_law_1639 hl (by decide) rfl (fun ls hl => ?_)
  refine lv_aload_n hx hb dL_law_1641 rfl (lv_at hl 4 rfl) ?_
  have hPc := hP.sub (ws' := [(y0, .inr (10, [.int 2, .ref m1, .int 0, .int 0, .int 0, .int (-1), .int 0, .int 0, .ref m8, .int 0, .int 0, .ref m11, .ref m12, .ref m13, .ref m14, .ref m15, .ref m16, .ref m17, .ref m18, .ref m19, .ref m20, .ref m21, .int 0, .int 0, .int 0, .ref m25, .ref m26, .int 0, .int 0, .ref m29, .ref m30, .ref m31, .ref m32, .int 0, .ref m34, .ref m35, .ref m36, .ref m37, .int 0, .int 0, .ref m40, .ref m41, .ref m42, .ref m43, .ref m44, .ref m45, .ref m46, .ref m47, .ref m48, .ref m49, .ref m50, .ref m51, .ref m52]))]) [0] rfl
  have hDc := hD.sub (ws' := [(y0, .inr (10, [.int 2, .ref m1, .int 0, .int 0, .int 0, .int (-1), .int 0, .int 0, .ref m8, .int 0, .int 0, .ref m11, .ref m12, .ref m13, .ref m14, .ref m15, .ref m16, .ref m17, .ref m18, .ref m19, .ref m20, .ref m21, .int 0, .int 0, .int 0, .ref m25, .ref m26, .int 0, .int 0, .ref m29, .ref m30, .ref m31, .ref m32, .int 0, .ref m34, .ref m35, .ref m36, .ref m37, .int 0, .int 0, .ref m40, .ref m41, .ref m42, .ref m43, .ref m44, .ref m45, .ref m46, .ref m47, .ref m48, .ref m49, .ref m50, .ref m51, .ref m52]))]) [0] (by decide) rfl
  have hKc := hK.sub (tys' := []) [] rfl
  have hFc := va_free (wc := [(y0, .inr (10, [.int 2, .ref m1, .int 0, .int 0, .int 0, .int (-1), .int 0, .int 0, .ref m8, .int 0, .int 0, .ref m11, .ref m12, .ref m13, .ref m14, .ref m15, .ref m16, .ref m17, .ref m18, .ref m19, .ref m20, .ref m21, .int 0, .int 0, .int 0, .ref m25, .ref m26, .int 0, .int 0, .ref m29, .ref m30, .ref m31, .ref m32, .int 0, .ref m34, .ref m35, .ref m36, .ref m37, .int 0, .int 0, .ref m40, .ref m41, .ref m42, .ref m43, .ref m44, .ref m45, .ref m46, .ref m47, .ref m48, .ref m49, .ref m50, .ref m51, .ref m52]))]) hD hS hA [0] rfl
  refine va_calli (va_runV (As := []) (rest := []) ⟨hx, hb, hml, hown, hts⟩ (m_thrown l dC dI H.size (y0) (2) (m1) (0) (0) (0) ((-1)) (0) (0) (m8) (0) (0) (m11) (m12) (m13) (m14) (m15) (m16) (m17) (m18) (m19) (m20) (m21) (0) (0) (0) (m25) (m26) (0) (0) (m29) (m30) (m31) (m32) (0) (m34) (m35) (m36) (m37) (0) (0) (m40) (m41) (m42) (m43) (m44) (m45) (m46) (m47) (m48) (m49) (m50) (m51) (m52)) (cwV 0 hts (gV_G k1327 k1328 k1329 k13 k1330) rfl rfl rfl (by decide +kernel) ⟨Nat.le_of_ble_eq_true rfl, Nat.le_of_ble_eq_true rfl⟩) ⟨fun a U g mk q => by obtain ⟨q0, q1, qP, qK, qD⟩ := q; exact ⟨q0, q1, qP, va_K.moved (u := U) (U := U.calling g mk a) (Vm.Alike.refl U.vm) qK, qD⟩, va_recv hKc hPc (ci := 10) (q0 := 0) rfl rfl, fun U hU hW => ⟨rfl, by rw [hU], by rw [hU]; exact hPc, va_K.moved hW.alike hKc, hDc.weaken (fun _ _ _ _ => trivial)⟩⟩ rfl rfl hl.1 rfl (lv_room (Nat.le_of_ble_eq_true rfl)) dL_law_1642 ⟨Nat.le_of_ble_eq_true rfl, Nat.le_of_ble_eq_true rfl⟩) hS (fun q _ h => hFc q h) hFc (fun r103 u t H1 locs ht hvm hw hB hz1 hk1 hS => ?_)
  obtain ⟨hP1, hK1, hD1⟩ := hB
  rw [ht] at hP1
  have hK1 := va_K.moved hvm.symm hK1
  try dsimp only at hw
  obtain ⟨hP, hD⟩ := va_join (wr := []) (w1 := []) hP hD [0] [] rfl rfl (by decide) (by decide) hk1 hFc hP1 hD1
  have hK := hK.app hK1
  generalize H1 = H at hP hS ⊢
  have hP : va_P (dC, dI) vwCl [] H := hP
  have hD : va_D A [] := hD
  have hK : va_K (dC, dI) vwCl [(d53, .int), (crf, .int), (co, .long)] s := hK
  refine W.widen (k := 6561) (n := 850836) (by omega) (by omega) ?_
  obtain rfl : r103 = 2 := hw
  refine lv_iload hx hb dL_law_1645 (lv_at hl 1 rfl) ?_
  refine lv_icmp_eq (tgt := 1652) hx hb dL_law_1647 (by decide) (fun _ => ?_) (fun c9 => absurd (by decide +kernel) c9)
  refine lv_iload hx hb dL_law_1652 (lv_at hl 1 rfl) ?_
  refine lv_if_ne (tgt := 1669) hx hb dL_law_1654 (by decide) (fun _ => ?_) (fun c9 => absurd c9 (by decide +kernel))
  refine lv_goto (tgt := 2301) hx hb dL_law_1669 (by decide) ?_
  refine W.widen (k := 6567) (n := 850872) (by omega) (by omega) ?_
  exact hend H locs ls hS (lv_sub hl [2, 6] rfl)
set_option maxHeartbeats 4000000 in
set_option maxRecDepth 100000 in
theorem lc_ordersX {p : Program} {l : Launch} {e : Env} {s : State} {m : MethodId} {below : List Frame} {meth : Method} {c : Code} {dC : Nat → ClassId} {dI : Nat → Nat → Nat} {A : Nat → Prop} {b : Nat} {xs : Nat → Int32} (C0 : lx_C p l s m c A b xs) {x0 w1 w6 w8 w15 w22 w26 w31 w35 w40 w48 w50 w52 y0 m1 m8 m11 m12 m13 m14 m15 m16 m17 m18 m19 m20 m21 m25 m26 m29 m30 m31 m32 m34 m35 m36 m37 m40 m41 m42 m43 m44 m45 m46 m47 m48 m49 m50 m51 m52 o0 : Nat} {d53 crf co : ClassId}  {v1 : Int32} (hs1 : xs (1 : Int32).toNatClampNeg = v1) (hq : ¬ (¬ v1 < 0 ∧ ¬ (3 : Int32) < v1))
    (hend : ∀ (H : Heap) (locs : List Loc) (ls : Array Slot), va_S A s.heap H locs → lv_has ls 7 [(4, .int 0), (0, .ref b)] → W p l e room_1 s m #[Value.ref b] below meth c H locs 6567 850872 (lw_Z below #[Value.ref b] s) (F0 m 2301 ls []))
    {H : Heap} {locs : List Loc} {ls : Array Slot} (hP : va_P (dC, dI) vwCl [(x0, .inr (9, [.ref w1, .ref w6, .int 0, .ref w8, .ref w15, .int 0, .int 0, .ref w22, .ref w26, .ref w31, .ref w35, .ref w40, .ref w48, .ref w50, .ref w52])), (w52, .inl (d53, 3, .inl (fun _ => 0))), (y0, .inr (10, [.int 0, .ref m1, .int 0, .int 0, .int 0, .int (-1), .int 0, .int 0, .ref m8, .int 0, .int 0, .ref m11, .ref m12, .ref m13, .ref m14, .ref m15, .ref m16, .ref m17, .ref m18, .ref m19, .ref m20, .ref m21, .int 0, .int 0, .int 0, .ref m25, .ref m26, .int 0, .int 0, .ref m29, .ref m30, .ref m31, .ref m32, .int 0, .ref m34, .ref m35, .ref m36, .ref m37, .int 0, .int 0, .ref m40, .ref m41, .ref m42, .ref m43, .ref m44, .ref m45, .ref m46, .ref m47, .ref m48, .ref m49, .ref m50, .ref m51, .ref m52])), (m1, .inl (crf, 3, .inl (fun _ => 0))), (o0, .inl (co, 1, .inr (.inl (fun _ => 0))))] H) (hD : va_D A [(x0, .inr (9, [.ref w1, .ref w6, .int 0, .ref w8, .ref w15, .int 0, .int 0, .ref w22, .ref w26, .ref w31, .ref w35, .ref w40, .ref w48, .ref w50, .ref w52])), (w52, .inl (d53, 3, .inl (fun _ => 0))), (y0, .inr (10, [.int 0, .ref m1, .int 0, .int 0, .int 0, .int (-1), .int 0, .int 0, .ref m8, .int 0, .int 0, .ref m11, .ref m12, .ref m13, .ref m14, .ref m15, .ref m16, .ref m17, .ref m18, .ref m19, .ref m20, .ref m21, .int 0, .int 0, .int 0, .ref m25, .ref m26, .int 0, .int 0, .ref m29, .ref m30, .ref m31, .ref m32, .int 0, .ref m34, .ref m35, .ref m36, .ref m37, .int 0, .int 0, .ref m40, .ref m41, .ref m42, .ref m43, .ref m44, .ref m45, .ref m46, .ref m47, .ref m48, .ref m49, .ref m50, .ref m51, .ref m52])), (m1, .inl (crf, 3, .inl (fun _ => 0))), (o0, .inl (co, 1, .inr (.inl (fun _ => 0))))]) (hK : va_K (dC, dI) vwCl [(d53, .int), (crf, .int), (co, .long)] s) (hS : va_S A s.heap H locs) (hl : lv_has ls 7 [(4, .int 0), (3, .ref o0), (2, .ref y0), (1, .ref x0), (0, .ref b)]) : W p l e room_1 s m #[Value.ref b] below meth c H locs 6559 850824 (lw_Z below #[Value.ref b] s) (F0 m 1616 ls []) := by
  obtain ⟨hfl, hx, hb, hml, hown, hts, hX, hbl, hbA, hA, hEx, hNc⟩ := C0
  refine lv_aload_n hx hb dL_law_1616 rfl (lv_at hl 3 rfl) ?_
  refine lv_aload_n hx hb dL_law_1617 rfl (lv_at hl 4 rfl) ?_
  refine lv_iload hx hb dL_law_1618 (lv_at hl 0 rfl) ?_
  refine lv_iconst (v := 1) hx hb dL_law_1620 (by decide) ?_
  refine lv_iadd hx hb dL_law_1621 ?_
  refine lv_topi (fun x9 ex9 => ?_)
  obtain rfl : x9 = 1 := ex9.trans (by decide +kernel)
  refine va_sld hx hb hX hbl hbA hS (by unfold vp_in; decide +kernel) dL_law_1622 ?_
  refine lv_topi (fun x9 ex9 => ?_)
  obtain rfl : v1 = x9 := (ex9.trans hs1).symm
  refine lv_aload_n hx hb dL_law_1623 rfl (lv_at hl 1 rfl) ?_
  have hPc := hP.sub (ws' := [(x0, .inr (9, [.ref w1, .ref w6, .int 0, .ref w8, .ref w15, .int 0, .int 0, .ref w22, .ref w26, .ref w31, .ref w35, .ref w40, .ref w48, .ref w50, .ref w52])), (w52, .inl (d53, 3, .inl (fun _ => 0))), (o0, .inl (co, 1, .inr (.inl (fun _ => 0))))]) [0, 1, 4] rfl
  have hDc := hD.sub (ws' := [(x0, .inr (9, [.ref w1, .ref w6, .int 0, .ref w8, .ref w15, .int 0, .int 0, .ref w22, .ref w26, .ref w31, .ref w35, .ref w40, .ref w48, .ref w50, .ref w52])), (w52, .inl (d53, 3, .inl (fun _ => 0))), (o0, .inl (co, 1, .inr (.inl (fun _ => 0))))]) [0, 1, 4] (by decide) rfl
  have hKc := hK.sub (tys' := [(d53, .int), (co, .long)]) [0, 2] rfl
  have hFc := va_free (wc := [(x0, .inr (9, [.ref w1, .ref w6, .int 0, .ref w8, .ref w15, .int 0, .int 0, .ref w22, .ref w26, .ref w31, .ref w35, .ref w40, .ref w48, .ref w50, .ref w52])), (w52, .inl (d53, 3, .inl (fun _ => 0))), (o0, .inl (co, 1, .inr (.inl (fun _ => 0))))]) hD hS hA [0, 1, 4] rfl
  refine va_calli (vx_runSW (hh := [(0, 9, 12, 13), (0, 9, 15, 15)]) (As := [.ref x0, .int v1, .ref o0]) (rest := []) ⟨hx, hb, hml, hown, hts⟩ (w_xorders l hfl dC dI H.size (x0) (w1) (w6) (w8) (w15) (w22) (w26) (w31) (w35) (w40) (w48) (w50) (w52) (d53) (o0) (co) (v1) (hq)) (vx_cwSW 3 hts (gW_G k1038 k1039 k0 k1040) rfl rfl rfl (by decide +kernel) ⟨Nat.le_of_ble_eq_true rfl, Nat.le_of_ble_eq_true rfl⟩) ⟨fun a U g mk q => by obtain ⟨q0, q1, qP, qK, qD, qE⟩ := q; exact ⟨q0, q1, qP, va_K.moved (u := U) (U := U.calling g mk a) (Vm.Alike.refl U.vm) qK, qD, xX_call qE⟩, fun U hU hW => ⟨rfl, by rw [hU], by rw [hU]; exact hPc, va_K.moved hW.alike hKc, hDc.weaken (fun _ _ _ _ => trivial), xX_at hEx hS (fun q h => hFc q h) hU hW⟩⟩ rfl rfl hl.1 rfl (lv_room (Nat.le_of_ble_eq_true rfl)) dL_law_1624 ⟨Nat.le_of_ble_eq_true rfl, Nat.le_of_ble_eq_true rfl⟩) hS (fun q _ h => hFc q h) hFc (fun r101 u t H1 locs ht hvm hw hB hz1 hk1 hS => ?_)
  obtain ⟨hP1, hK1, hD1⟩ := hB
  rw [ht] at hP1
  have hK1 := va_K.moved hvm.symm hK1
  try dsimp only at hw
  obtain ⟨hP, hD⟩ := va_join (wr := [(y0, .inr (10, [.int 0, .ref m1, .int 0, .int 0, .int 0, .int (-1), .int 0, .int 0, .ref m8, .int 0, .int 0, .ref m11, .ref m12, .ref m13, .ref m14, .ref m15, .ref m16, .ref m17, .ref m18, .ref m19, .ref m20, .ref m21, .int 0, .int 0, .int 0, .ref m25, .ref m26, .int 0, .int 0, .ref m29, .ref m30, .ref m31, .ref m32, .int 0, .ref m34, .ref m35, .ref m36, .ref m37, .int 0, .int 0, .ref m40, .ref m41, .ref m42, .ref m43, .ref m44, .ref m45, .ref m46, .ref m47, .ref m48, .ref m49, .ref m50, .ref m51, .ref m52])), (m1, .inl (crf, 3, .inl (fun _ => 0)))]) (w1 := []) hP hD [0, 1, 4] [2, 3] rfl rfl (by decide) (by decide) hk1 hFc hP1 hD1
  have hK := hK.app hK1
  generalize H1 = H at hP hS ⊢
  have hP : va_P (dC, dI) vwCl [(y0, .inr (10, [.int 0, .ref m1, .int 0, .int 0, .int 0, .int (-1), .int 0, .int 0, .ref m8, .int 0, .int 0, .ref m11, .ref m12, .ref m13, .ref m14, .ref m15, .ref m16, .ref m17, .ref m18, .ref m19, .ref m20, .ref m21, .int 0, .int 0, .int 0, .ref m25, .ref m26, .int 0, .int 0, .ref m29, .ref m30, .ref m31, .ref m32, .int 0, .ref m34, .ref m35, .ref m36, .ref m37, .int 0, .int 0, .ref m40, .ref m41, .ref m42, .ref m43, .ref m44, .ref m45, .ref m46, .ref m47, .ref m48, .ref m49, .ref m50, .ref m51, .ref m52])), (m1, .inl (crf, 3, .inl (fun _ => 0)))] H := hP
  have hD : va_D A [(y0, .inr (10, [.int 0, .ref m1, .int 0, .int 0, .int 0, .int (-1), .int 0, .int 0, .ref m8, .int 0, .int 0, .ref m11, .ref m12, .ref m13, .ref m14, .ref m15, .ref m16, .ref m17, .ref m18, .ref m19, .ref m20, .ref m21, .int 0, .int 0, .int 0, .ref m25, .ref m26, .int 0, .int 0, .ref m29, .ref m30, .ref m31, .ref m32, .int 0, .ref m34, .ref m35, .ref m36, .ref m37, .int 0, .int 0, .ref m40, .ref m41, .ref m42, .ref m43, .ref m44, .ref m45, .ref m46, .ref m47, .ref m48, .ref m49, .ref m50, .ref m51, .ref m52])), (m1, .inl (crf, 3, .inl (fun _ => 0)))] := hD
  have hK : va_K (dC, dI) vwCl [(d53, .int), (crf, .int), (co, .long)] s := hK
  refine W.widen (k := 6561) (n := 850836) (by omega) (by omega) ?_
  obtain rfl : r101 = 1 := hw
  refine lv_istore (lv' := [(5, .int 1), (4, .int 0), (3, .ref o0), (2, .ref y0), (1, .ref x0), (0, .ref b)]) hx hb dL_law_1627 hl (by decide) rfl (fun ls hl => ?_)
  refine lv_aload_n hx hb dL_law_1629 rfl (lv_at hl 3 rfl) ?_
  refine lv_aload_n hx hb dL_law_1630 rfl (lv_at hl 5 rfl) ?_
  refine lv_iload hx hb dL_law_1631 (lv_at hl 1 rfl) ?_
  refine lv_iconst (v := 1) hx hb dL_law_1633 (by decide) ?_
  refine lv_iadd hx hb dL_law_1634 ?_
  refine lv_topi (fun x9 ex9 => ?_)
  obtain rfl : x9 = 1 := ex9.trans (by decide +kernel)
  refine va_sld hx hb hX hbl hbA hS (by unfold vp_in; decide +kernel) dL_law_1635 ?_
  refine lv_topi (fun x9 ex9 => ?_)
  obtain rfl : v1 = x9 := (ex9.trans hs1).symm
  have hPc := hP.sub (ws' := [(y0, .inr (10, [.int 0, .ref m1, .int 0, .int 0, .int 0, .int (-1), .int 0, .int 0, .ref m8, .int 0, .int 0, .ref m11, .ref m12, .ref m13, .ref m14, .ref m15, .ref m16, .ref m17, .ref m18, .ref m19, .ref m20, .ref m21, .int 0, .int 0, .int 0, .ref m25, .ref m26, .int 0, .int 0, .ref m29, .ref m30, .ref m31, .ref m32, .int 0, .ref m34, .ref m35, .ref m36, .ref m37, .int 0, .int 0, .ref m40, .ref m41, .ref m42, .ref m43, .ref m44, .ref m45, .ref m46, .ref m47, .ref m48, .ref m49, .ref m50, .ref m51, .ref m52])), (m1, .inl (crf, 3, .inl (fun _ => 0)))]) [0, 1] rfl
  have hDc := hD.sub (ws' := [(y0, .inr (10, [.int 0, .ref m1, .int 0, .int 0, .int 0, .int (-1), .int 0, .int 0, .ref m8, .int 0, .int 0, .ref m11, .ref m12, .ref m13, .ref m14, .ref m15, .ref m16, .ref m17, .ref m18, .ref m19, .ref m20, .ref m21, .int 0, .int 0, .int 0, .ref m25, .ref m26, .int 0, .int 0, .ref m29, .ref m30, .ref m31, .ref m32, .int 0, .ref m34, .ref m35, .ref m36, .ref m37, .int 0, .int 0, .ref m40, .ref m41, .ref m42, .ref m43, .ref m44, .ref m45, .ref m46, .ref m47, .ref m48, .ref m49, .ref m50, .ref m51, .ref m52])), (m1, .inl (crf, 3, .inl (fun _ => 0)))]) [0, 1] (by decide) rfl
  have hKc := hK.sub (tys' := [(crf, .int)]) [1] rfl
  have hFc := va_free (wc := [(y0, .inr (10, [.int 0, .ref m1, .int 0, .int 0, .int 0, .int (-1), .int 0, .int 0, .ref m8, .int 0, .int 0, .ref m11, .ref m12, .ref m13, .ref m14, .ref m15, .ref m16, .ref m17, .ref m18, .ref m19, .ref m20, .ref m21, .int 0, .int 0, .int 0, .ref m25, .ref m26, .int 0, .int 0, .ref m29, .ref m30, .ref m31, .ref m32, .int 0, .ref m34, .ref m35, .ref m36, .ref m37, .int 0, .int 0, .ref m40, .ref m41, .ref m42, .ref m43, .ref m44, .ref m45, .ref m46, .ref m47, .ref m48, .ref m49, .ref m50, .ref m51, .ref m52])), (m1, .inl (crf, 3, .inl (fun _ => 0)))]) hD hS hA [0, 1] rfl
  refine va_calli (va_runV (As := [.int v1]) (rest := []) ⟨hx, hb, hml, hown, hts⟩ (m_xorders l dC dI H.size (y0) (m1) (m8) (m11) (m12) (m13) (m14) (m15) (m16) (m17) (m18) (m19) (m20) (m21) (m25) (m26) (m29) (m30) (m31) (m32) (m34) (m35) (m36) (m37) (m40) (m41) (m42) (m43) (m44) (m45) (m46) (m47) (m48) (m49) (m50) (m51) (m52) (crf) (v1) (hq)) (cwV 1 hts (gV_G k1711 k1712 k1713 k13 k1714) rfl rfl rfl (by decide +kernel) ⟨Nat.le_of_ble_eq_true rfl, Nat.le_of_ble_eq_true rfl⟩) ⟨fun a U g mk q => by obtain ⟨q0, q1, qP, qK, qD⟩ := q; exact ⟨q0, q1, qP, va_K.moved (u := U) (U := U.calling g mk a) (Vm.Alike.refl U.vm) qK, qD⟩, va_recv hKc hPc (ci := 10) (q0 := 0) rfl rfl, fun U hU hW => ⟨rfl, by rw [hU], by rw [hU]; exact hPc, va_K.moved hW.alike hKc, hDc.weaken (fun _ _ _ _ => trivial)⟩⟩ rfl rfl hl.1 rfl (lv_room (Nat.le_of_ble_eq_true rfl)) dL_law_1636 ⟨Nat.le_of_ble_eq_true rfl, Nat.le_of_ble_eq_true rfl⟩) hS (fun q _ h => hFc q h) hFc (fun r102 u t H1 locs ht hvm hw hB hz1 hk1 hS => ?_)
  obtain ⟨hP1, hK1, hD1⟩ := hB
  rw [ht] at hP1
  have hK1 := va_K.moved hvm.symm hK1
  try dsimp only at hw
  obtain ⟨hP, hD⟩ := va_join (wr := []) (w1 := [(y0, .inr (10, [.int 1, .ref m1, .int 0, .int 0, .int 0, .int (-1), .int 0, .int 0, .ref m8, .int 0, .int 0, .ref m11, .ref m12, .ref m13, .ref m14, .ref m15, .ref m16, .ref m17, .ref m18, .ref m19, .ref m20, .ref m21, .int 0, .int 0, .int 0, .ref m25, .ref m26, .int 0, .int 0, .ref m29, .ref m30, .ref m31, .ref m32, .int 0, .ref m34, .ref m35, .ref m36, .ref m37, .int 0, .int 0, .ref m40, .ref m41, .ref m42, .ref m43, .ref m44, .ref m45, .ref m46, .ref m47, .ref m48, .ref m49, .ref m50, .ref m51, .ref m52]))]) hP hD [0, 1] [] rfl rfl (by decide) (by decide) hk1 hFc hP1 hD1
  have hK := hK.app hK1
  generalize H1 = H at hP hS ⊢
  have hP : va_P (dC, dI) vwCl [(y0, .inr (10, [.int 1, .ref m1, .int 0, .int 0, .int 0, .int (-1), .int 0, .int 0, .ref m8, .int 0, .int 0, .ref m11, .ref m12, .ref m13, .ref m14, .ref m15, .ref m16, .ref m17, .ref m18, .ref m19, .ref m20, .ref m21, .int 0, .int 0, .int 0, .ref m25, .ref m26, .int 0, .int 0, .ref m29, .ref m30, .ref m31, .ref m32, .int 0, .ref m34, .ref m35, .ref m36, .ref m37, .int 0, .int 0, .ref m40, .ref m41, .ref m42, .ref m43, .ref m44, .ref m45, .ref m46, .ref m47, .ref m48, .ref m49, .ref m50, .ref m51, .ref m52]))] H := hP
  have hD : va_D A [(y0, .inr (10, [.int 1, .ref m1, .int 0, .int 0, .int 0, .int (-1), .int 0, .int 0, .ref m8, .int 0, .int 0, .ref m11, .ref m12, .ref m13, .ref m14, .ref m15, .ref m16, .ref m17, .ref m18, .ref m19, .ref m20, .ref m21, .int 0, .int 0, .int 0, .ref m25, .ref m26, .int 0, .int 0, .ref m29, .ref m30, .ref m31, .ref m32, .int 0, .ref m34, .ref m35, .ref m36, .ref m37, .int 0, .int 0, .ref m40, .ref m41, .ref m42, .ref m43, .ref m44, .ref m45, .ref m46, .ref m47, .ref m48, .ref m49, .ref m50, .ref m51, .ref m52]))] := hD
  have hK : va_K (dC, dI) vwCl [(d53, .int), (crf, .int), (co, .long)] s := hK
  refine W.widen (k := 6561) (n := 850836) (by omega) (by omega) ?_
  obtain rfl : r102 = 0 := hw
  refine lv_istore (lv' := [(6, .int 0), (5, .int 1), (4, .int 0), (3, .ref o0), (2, .ref y0), (1, .ref x0), (0, .ref b)]) hx hb dL_law_1639 hl (by decide) rfl (fun ls hl => ?_)
  refine lv_aload_n hx hb dL_law_1641 rfl (lv_at hl 4 rfl) ?_
  have hPc := hP.sub (ws' := [(y0, .inr (10, [.int 1, .ref m1, .int 0, .int 0, .int 0, .int (-1), .int 0, .int 0, .ref m8, .int 0, .int 0, .ref m11, .ref m12, .ref m13, .ref m14, .ref m15, .ref m16, .ref m17, .ref m18, .ref m19, .ref m20, .ref m21, .int 0, .int 0, .int 0, .ref m25, .ref m26, .int 0, .int 0, .ref m29, .ref m30, .ref m31, .ref m32, .int 0, .ref m34, .ref m35, .ref m36, .ref m37, .int 0, .int 0, .ref m40, .ref m41, .ref m42, .ref m43, .ref m44, .ref m45, .ref m46, .ref m47, .ref m48, .ref m49, .ref m50, .ref m51, .ref m52]))]) [0] rfl
  have hDc := hD.sub (ws' := [(y0, .inr (10, [.int 1, .ref m1, .int 0, .int 0, .int 0, .int (-1), .int 0, .int 0, .ref m8, .int 0, .int 0, .ref m11, .ref m12, .ref m13, .ref m14, .ref m15, .ref m16, .ref m17, .ref m18, .ref m19, .ref m20, .ref m21, .int 0, .int 0, .int 0, .ref m25, .ref m26, .int 0, .int 0, .ref m29, .ref m30, .ref m31, .ref m32, .int 0, .ref m34, .ref m35, .ref m36, .ref m37, .int 0, .int 0, .ref m40, .ref m41, .ref m42, .ref m43, .ref m44, .ref m45, .ref m46, .ref m47, .ref m48, .ref m49, .ref m50, .ref m51, .ref m52]))]) [0] (by decide) rfl
  have hKc := hK.sub (tys' := []) [] rfl
  have hFc := va_free (wc := [(y0, .inr (10, [.int 1, .ref m1, .int 0, .int 0, .int 0, .int (-1), .int 0, .int 0, .ref m8, .int 0, .int 0, .ref m11, .ref m12, .ref m13, .ref m14, .ref m15, .ref m16, .ref m17, .ref m18, .ref m19, .ref m20, .ref m21, .int 0, .int 0, .int 0, .ref m25, .ref m26, .int 0, .int 0, .ref m29, .ref m30, .ref m31, .ref m32, .int 0, .ref m34, .ref m35, .ref m36, .ref m37, .int 0, .int 0, .ref m40, .ref m41, .ref m42, .ref m43, .ref m44, .ref m45, .ref m46, .ref m47, .ref m48, .ref m49, .ref m50, .ref m51, .ref m52]))]) hD hS hA [0] rfl
  refine va_calli (va_runV (As := []) (rest := []) ⟨hx, hb, hml, hown, hts⟩ (m_thrown l dC dI H.size (y0) (1) (m1) (0) (0) (0) ((-1)) (0) (0) (m8) (0) (0) (m11) (m12) (m13) (m14) (m15) (m16) (m17) (m18) (m19) (m20) (m21) (0) (0) (0) (m25) (m26) (0) (0) (m29) (m30) (m31) (m32) (0) (m34) (m35) (m36) (m37) (0) (0) (m40) (m41) (m42) (m43) (m44) (m45) (m46) (m47) (m48) (m49) (m50) (m51) (m52)) (cwV 0 hts (gV_G k1327 k1328 k1329 k13 k1330) rfl rfl rfl (by decide +kernel) ⟨Nat.le_of_ble_eq_true rfl, Nat.le_of_ble_eq_true rfl⟩) ⟨fun a U g mk q => by obtain ⟨q0, q1, qP, qK, qD⟩ := q; exact ⟨q0, q1, qP, va_K.moved (u := U) (U := U.calling g mk a) (Vm.Alike.refl U.vm) qK, qD⟩, va_recv hKc hPc (ci := 10) (q0 := 0) rfl rfl, fun U hU hW => ⟨rfl, by rw [hU], by rw [hU]; exact hPc, va_K.moved hW.alike hKc, hDc.weaken (fun _ _ _ _ => trivial)⟩⟩ rfl rfl hl.1 rfl (lv_room (Nat.le_of_ble_eq_true rfl)) dL_law_1642 ⟨Nat.le_of_ble_eq_true rfl, Nat.le_of_ble_eq_true rfl⟩) hS (fun q _ h => hFc q h) hFc (fun r103 u t H1 locs ht hvm hw hB hz1 hk1 hS => ?_)
  obtain ⟨hP1, hK1, hD1⟩ := hB
  rw [ht] at hP1
  have hK1 := va_K.moved hvm.symm hK1
  try dsimp only at hw
  obtain ⟨hP, hD⟩ := va_join (wr := []) (w1 := []) hP hD [0] [] rfl rfl (by decide) (by decide) hk1 hFc hP1 hD1
  have hK := hK.app hK1
  generalize H1 = H at hP hS ⊢
  have hP : va_P (dC, dI) vwCl [] H := hP
  have hD : va_D A [] := hD
  have hK : va_K (dC, dI) vwCl [(d53, .int), (crf, .int), (co, .long)] s := hK
  refine W.widen (k := 6561) (n := 850836) (by omega) (by omega) ?_
  obtain rfl : r103 = 1 := hw
  refine lv_iload hx hb dL_law_1645 (lv_at hl 1 rfl) ?_
  refine lv_icmp_eq (tgt := 1652) hx hb dL_law_1647 (by decide) (fun _ => ?_) (fun c9 => absurd (by decide +kernel) c9)
  refine lv_iload hx hb dL_law_1652 (lv_at hl 1 rfl) ?_
  refine lv_if_ne (tgt := 1669) hx hb dL_law_1654 (by decide) (fun _ => ?_) (fun c9 => absurd c9 (by decide +kernel))
  refine lv_goto (tgt := 2301) hx hb dL_law_1669 (by decide) ?_
  refine W.widen (k := 6567) (n := 850872) (by omega) (by omega) ?_
  exact hend H locs ls hS (lv_sub hl [2, 6] rfl)
set_option maxHeartbeats 4000000 in
set_option maxRecDepth 100000 in
theorem lc_status0 {p : Program} {l : Launch} {e : Env} {s : State} {m : MethodId} {below : List Frame} {meth : Method} {c : Code} {dC : Nat → ClassId} {dI : Nat → Nat → Nat} {A : Nat → Prop} {b : Nat} {xs : Nat → Int32} (C0 : lx_C p l s m c A b xs) {x0 w1 w6 w8 w15 w22 w26 w31 w35 w40 w48 w50 w52 y0 m1 m8 m11 m12 m13 m14 m15 m16 m17 m18 m19 m20 m21 m25 m26 m29 m30 m31 m32 m34 m35 m36 m37 m40 m41 m42 m43 m44 m45 m46 m47 m48 m49 m50 m51 m52 o0 : Nat} {d53 crf co : ClassId}   (hs1 : xs (1 : Int32).toNatClampNeg = 0)
    (hend : ∀ (H : Heap) (locs : List Loc) (ls : Array Slot), va_S A s.heap H locs → lv_has ls 7 [(4, .int 0), (0, .ref b)] → W p l e room_1 s m #[Value.ref b] below meth c H locs 6567 850872 (lw_Z below #[Value.ref b] s) (F0 m 2301 ls []))
    {H : Heap} {locs : List Loc} {ls : Array Slot} (hP : va_P (dC, dI) vwCl [(x0, .inr (9, [.ref w1, .ref w6, .int 0, .ref w8, .ref w15, .int 0, .int 0, .ref w22, .ref w26, .ref w31, .ref w35, .ref w40, .ref w48, .ref w50, .ref w52])), (w52, .inl (d53, 3, .inl (fun _ => 0))), (y0, .inr (10, [.int 0, .ref m1, .int 0, .int 0, .int 0, .int (-1), .int 0, .int 0, .ref m8, .int 0, .int 0, .ref m11, .ref m12, .ref m13, .ref m14, .ref m15, .ref m16, .ref m17, .ref m18, .ref m19, .ref m20, .ref m21, .int 0, .int 0, .int 0, .ref m25, .ref m26, .int 0, .int 0, .ref m29, .ref m30, .ref m31, .ref m32, .int 0, .ref m34, .ref m35, .ref m36, .ref m37, .int 0, .int 0, .ref m40, .ref m41, .ref m42, .ref m43, .ref m44, .ref m45, .ref m46, .ref m47, .ref m48, .ref m49, .ref m50, .ref m51, .ref m52])), (m1, .inl (crf, 3, .inl (fun _ => 0))), (o0, .inl (co, 1, .inr (.inl (fun _ => 0))))] H) (hD : va_D A [(x0, .inr (9, [.ref w1, .ref w6, .int 0, .ref w8, .ref w15, .int 0, .int 0, .ref w22, .ref w26, .ref w31, .ref w35, .ref w40, .ref w48, .ref w50, .ref w52])), (w52, .inl (d53, 3, .inl (fun _ => 0))), (y0, .inr (10, [.int 0, .ref m1, .int 0, .int 0, .int 0, .int (-1), .int 0, .int 0, .ref m8, .int 0, .int 0, .ref m11, .ref m12, .ref m13, .ref m14, .ref m15, .ref m16, .ref m17, .ref m18, .ref m19, .ref m20, .ref m21, .int 0, .int 0, .int 0, .ref m25, .ref m26, .int 0, .int 0, .ref m29, .ref m30, .ref m31, .ref m32, .int 0, .ref m34, .ref m35, .ref m36, .ref m37, .int 0, .int 0, .ref m40, .ref m41, .ref m42, .ref m43, .ref m44, .ref m45, .ref m46, .ref m47, .ref m48, .ref m49, .ref m50, .ref m51, .ref m52])), (m1, .inl (crf, 3, .inl (fun _ => 0))), (o0, .inl (co, 1, .inr (.inl (fun _ => 0))))]) (hK : va_K (dC, dI) vwCl [(d53, .int), (crf, .int), (co, .long)] s) (hS : va_S A s.heap H locs) (hl : lv_has ls 7 [(4, .int 0), (3, .ref o0), (2, .ref y0), (1, .ref x0), (0, .ref b)]) : W p l e room_1 s m #[Value.ref b] below meth c H locs 6559 850824 (lw_Z below #[Value.ref b] s) (F0 m 2276 ls []) := by
  obtain ⟨hfl, hx, hb, hml, hown, hts, hX, hbl, hbA, hA, hEx, hNc⟩ := C0
  refine lv_aload_n hx hb dL_law_2276 rfl (lv_at hl 3 rfl) ?_
  refine lv_aload_n hx hb dL_law_2277 rfl (lv_at hl 4 rfl) ?_
  refine lv_iload hx hb dL_law_2278 (lv_at hl 0 rfl) ?_
  refine lv_iconst (v := 1) hx hb dL_law_2280 (by decide) ?_
  refine lv_iadd hx hb dL_law_2281 ?_
  refine lv_topi (fun x9 ex9 => ?_)
  obtain rfl : x9 = 1 := ex9.trans (by decide +kernel)
  refine va_sld hx hb hX hbl hbA hS (by unfold vp_in; decide +kernel) dL_law_2282 ?_
  refine lv_topi (fun x9 ex9 => ?_)
  obtain rfl : x9 = 0 := ex9.trans hs1
  have hPc := hP.sub (ws' := [(x0, .inr (9, [.ref w1, .ref w6, .int 0, .ref w8, .ref w15, .int 0, .int 0, .ref w22, .ref w26, .ref w31, .ref w35, .ref w40, .ref w48, .ref w50, .ref w52])), (w52, .inl (d53, 3, .inl (fun _ => 0)))]) [0, 1] rfl
  have hDc := hD.sub (ws' := [(x0, .inr (9, [.ref w1, .ref w6, .int 0, .ref w8, .ref w15, .int 0, .int 0, .ref w22, .ref w26, .ref w31, .ref w35, .ref w40, .ref w48, .ref w50, .ref w52])), (w52, .inl (d53, 3, .inl (fun _ => 0)))]) [0, 1] (by decide) rfl
  have hKc := hK.sub (tys' := [(d53, .int)]) [0] rfl
  have hFc := va_free (wc := [(x0, .inr (9, [.ref w1, .ref w6, .int 0, .ref w8, .ref w15, .int 0, .int 0, .ref w22, .ref w26, .ref w31, .ref w35, .ref w40, .ref w48, .ref w50, .ref w52])), (w52, .inl (d53, 3, .inl (fun _ => 0)))]) hD hS hA [0, 1] rfl
  refine va_calli (va_runV (As := [.int 0]) (rest := []) ⟨hx, hb, hml, hown, hts⟩ (c_status l dC dI H.size (x0) (w1) (w6) (w8) (w15) (w22) (w26) (w31) (w35) (w40) (w48) (w50) (w52) (d53) (0) (⟨by decide +kernel, by decide +kernel⟩)) (cwV 1 hts (gV_G k583 k584 k585 k1 k586) rfl rfl rfl (by decide +kernel) ⟨Nat.le_of_ble_eq_true rfl, Nat.le_of_ble_eq_true rfl⟩) ⟨fun a U g mk q => by obtain ⟨q0, q1, qP, qK, qD⟩ := q; exact ⟨q0, q1, qP, va_K.moved (u := U) (U := U.calling g mk a) (Vm.Alike.refl U.vm) qK, qD⟩, va_recv hKc hPc (ci := 9) (q0 := 0) rfl rfl, fun U hU hW => ⟨rfl, by rw [hU], by rw [hU]; exact hPc, va_K.moved hW.alike hKc, hDc.weaken (fun _ _ _ _ => trivial)⟩⟩ rfl rfl hl.1 rfl (lv_room (Nat.le_of_ble_eq_true rfl)) dL_law_2283 ⟨Nat.le_of_ble_eq_true rfl, Nat.le_of_ble_eq_true rfl⟩) hS (fun q _ h => hFc q h) hFc (fun r101 u t H1 locs ht hvm hw hB hz1 hk1 hS => ?_)
  obtain ⟨hP1, hK1, hD1⟩ := hB
  rw [ht] at hP1
  have hK1 := va_K.moved hvm.symm hK1
  try dsimp only at hw
  obtain ⟨hP, hD⟩ := va_join (wr := [(y0, .inr (10, [.int 0, .ref m1, .int 0, .int 0, .int 0, .int (-1), .int 0, .int 0, .ref m8, .int 0, .int 0, .ref m11, .ref m12, .ref m13, .ref m14, .ref m15, .ref m16, .ref m17, .ref m18, .ref m19, .ref m20, .ref m21, .int 0, .int 0, .int 0, .ref m25, .ref m26, .int 0, .int 0, .ref m29, .ref m30, .ref m31, .ref m32, .int 0, .ref m34, .ref m35, .ref m36, .ref m37, .int 0, .int 0, .ref m40, .ref m41, .ref m42, .ref m43, .ref m44, .ref m45, .ref m46, .ref m47, .ref m48, .ref m49, .ref m50, .ref m51, .ref m52])), (m1, .inl (crf, 3, .inl (fun _ => 0))), (o0, .inl (co, 1, .inr (.inl (fun _ => 0))))]) (w1 := []) hP hD [0, 1] [2, 3, 4] rfl rfl (by decide) (by decide) hk1 hFc hP1 hD1
  have hK := hK.app hK1
  generalize H1 = H at hP hS ⊢
  have hP : va_P (dC, dI) vwCl [(y0, .inr (10, [.int 0, .ref m1, .int 0, .int 0, .int 0, .int (-1), .int 0, .int 0, .ref m8, .int 0, .int 0, .ref m11, .ref m12, .ref m13, .ref m14, .ref m15, .ref m16, .ref m17, .ref m18, .ref m19, .ref m20, .ref m21, .int 0, .int 0, .int 0, .ref m25, .ref m26, .int 0, .int 0, .ref m29, .ref m30, .ref m31, .ref m32, .int 0, .ref m34, .ref m35, .ref m36, .ref m37, .int 0, .int 0, .ref m40, .ref m41, .ref m42, .ref m43, .ref m44, .ref m45, .ref m46, .ref m47, .ref m48, .ref m49, .ref m50, .ref m51, .ref m52])), (m1, .inl (crf, 3, .inl (fun _ => 0))), (o0, .inl (co, 1, .inr (.inl (fun _ => 0))))] H := hP
  have hD : va_D A [(y0, .inr (10, [.int 0, .ref m1, .int 0, .int 0, .int 0, .int (-1), .int 0, .int 0, .ref m8, .int 0, .int 0, .ref m11, .ref m12, .ref m13, .ref m14, .ref m15, .ref m16, .ref m17, .ref m18, .ref m19, .ref m20, .ref m21, .int 0, .int 0, .int 0, .ref m25, .ref m26, .int 0, .int 0, .ref m29, .ref m30, .ref m31, .ref m32, .int 0, .ref m34, .ref m35, .ref m36, .ref m37, .int 0, .int 0, .ref m40, .ref m41, .ref m42, .ref m43, .ref m44, .ref m45, .ref m46, .ref m47, .ref m48, .ref m49, .ref m50, .ref m51, .ref m52])), (m1, .inl (crf, 3, .inl (fun _ => 0))), (o0, .inl (co, 1, .inr (.inl (fun _ => 0))))] := hD
  have hK : va_K (dC, dI) vwCl [(d53, .int), (crf, .int), (co, .long)] s := hK
  refine W.widen (k := 6559) (n := 850824) (by omega) (by omega) ?_
  obtain rfl : r101 = 0 := hw
  refine lv_aload_n hx hb dL_law_2286 rfl (lv_at hl 2 rfl) ?_
  refine lv_aload_n hx hb dL_law_2287 rfl (lv_at hl 4 rfl) ?_
  refine lv_iload hx hb dL_law_2288 (lv_at hl 0 rfl) ?_
  refine lv_iconst (v := 1) hx hb dL_law_2290 (by decide) ?_
  refine lv_iadd hx hb dL_law_2291 ?_
  refine lv_topi (fun x9 ex9 => ?_)
  obtain rfl : x9 = 1 := ex9.trans (by decide +kernel)
  refine va_sld hx hb hX hbl hbA hS (by unfold vp_in; decide +kernel) dL_law_2292 ?_
  refine lv_topi (fun x9 ex9 => ?_)
  obtain rfl : x9 = 0 := ex9.trans hs1
  have hPc := hP.sub (ws' := [(y0, .inr (10, [.int 0, .ref m1, .int 0, .int 0, .int 0, .int (-1), .int 0, .int 0, .ref m8, .int 0, .int 0, .ref m11, .ref m12, .ref m13, .ref m14, .ref m15, .ref m16, .ref m17, .ref m18, .ref m19, .ref m20, .ref m21, .int 0, .int 0, .int 0, .ref m25, .ref m26, .int 0, .int 0, .ref m29, .ref m30, .ref m31, .ref m32, .int 0, .ref m34, .ref m35, .ref m36, .ref m37, .int 0, .int 0, .ref m40, .ref m41, .ref m42, .ref m43, .ref m44, .ref m45, .ref m46, .ref m47, .ref m48, .ref m49, .ref m50, .ref m51, .ref m52])), (m1, .inl (crf, 3, .inl (fun _ => 0)))]) [0, 1] rfl
  have hDc := hD.sub (ws' := [(y0, .inr (10, [.int 0, .ref m1, .int 0, .int 0, .int 0, .int (-1), .int 0, .int 0, .ref m8, .int 0, .int 0, .ref m11, .ref m12, .ref m13, .ref m14, .ref m15, .ref m16, .ref m17, .ref m18, .ref m19, .ref m20, .ref m21, .int 0, .int 0, .int 0, .ref m25, .ref m26, .int 0, .int 0, .ref m29, .ref m30, .ref m31, .ref m32, .int 0, .ref m34, .ref m35, .ref m36, .ref m37, .int 0, .int 0, .ref m40, .ref m41, .ref m42, .ref m43, .ref m44, .ref m45, .ref m46, .ref m47, .ref m48, .ref m49, .ref m50, .ref m51, .ref m52])), (m1, .inl (crf, 3, .inl (fun _ => 0)))]) [0, 1] (by decide) rfl
  have hKc := hK.sub (tys' := [(crf, .int)]) [1] rfl
  have hFc := va_free (wc := [(y0, .inr (10, [.int 0, .ref m1, .int 0, .int 0, .int 0, .int (-1), .int 0, .int 0, .ref m8, .int 0, .int 0, .ref m11, .ref m12, .ref m13, .ref m14, .ref m15, .ref m16, .ref m17, .ref m18, .ref m19, .ref m20, .ref m21, .int 0, .int 0, .int 0, .ref m25, .ref m26, .int 0, .int 0, .ref m29, .ref m30, .ref m31, .ref m32, .int 0, .ref m34, .ref m35, .ref m36, .ref m37, .int 0, .int 0, .ref m40, .ref m41, .ref m42, .ref m43, .ref m44, .ref m45, .ref m46, .ref m47, .ref m48, .ref m49, .ref m50, .ref m51, .ref m52])), (m1, .inl (crf, 3, .inl (fun _ => 0)))]) hD hS hA [0, 1] rfl
  refine va_calli (va_runV (As := [.int 0]) (rest := [.int 0]) ⟨hx, hb, hml, hown, hts⟩ (m_status0 l dC dI H.size (y0) (m1) (m8) (m11) (m12) (m13) (m14) (m15) (m16) (m17) (m18) (m19) (m20) (m21) (m25) (m26) (m29) (m30) (m31) (m32) (m34) (m35) (m36) (m37) (m40) (m41) (m42) (m43) (m44) (m45) (m46) (m47) (m48) (m49) (m50) (m51) (m52) (crf)) (cwV 1 hts (gV_G k1763 k1764 k1765 k13 k1766) rfl rfl rfl (by decide +kernel) ⟨Nat.le_of_ble_eq_true rfl, Nat.le_of_ble_eq_true rfl⟩) ⟨fun a U g mk q => by obtain ⟨q0, q1, qP, qK, qD⟩ := q; exact ⟨q0, q1, qP, va_K.moved (u := U) (U := U.calling g mk a) (Vm.Alike.refl U.vm) qK, qD⟩, va_recv hKc hPc (ci := 10) (q0 := 0) rfl rfl, fun U hU hW => ⟨rfl, by rw [hU], by rw [hU]; exact hPc, va_K.moved hW.alike hKc, hDc.weaken (fun _ _ _ _ => trivial)⟩⟩ rfl rfl hl.1 rfl (lv_room (Nat.le_of_ble_eq_true rfl)) dL_law_2293 ⟨Nat.le_of_ble_eq_true rfl, Nat.le_of_ble_eq_true rfl⟩) hS (fun q _ h => hFc q h) hFc (fun r102 u t H1 locs ht hvm hw hB hz1 hk1 hS => ?_)
  obtain ⟨hP1, hK1, hD1⟩ := hB
  rw [ht] at hP1
  have hK1 := va_K.moved hvm.symm hK1
  try dsimp only at hw
  obtain ⟨hP, hD⟩ := va_join (wr := [(o0, .inl (co, 1, .inr (.inl (fun _ => 0))))]) (w1 := [(y0, .inr (10, [.int 0, .ref m1, .int 0, .int 0, .int 0, .int (-1), .int 0, .int 0, .ref m8, .int 0, .int 0, .ref m11, .ref m12, .ref m13, .ref m14, .ref m15, .ref m16, .ref m17, .ref m18, .ref m19, .ref m20, .ref m21, .int 0, .int 0, .int 0, .ref m25, .ref m26, .int 0, .int 0, .ref m29, .ref m30, .ref m31, .ref m32, .int 0, .ref m34, .ref m35, .ref m36, .ref m37, .int 0, .int 0, .ref m40, .ref m41, .ref m42, .ref m43, .ref m44, .ref m45, .ref m46, .ref m47, .ref m48, .ref m49, .ref m50, .ref m51, .ref m52]))]) hP hD [0, 1] [2] rfl rfl (by decide) (by decide) hk1 hFc hP1 hD1
  have hK := hK.app hK1
  generalize H1 = H at hP hS ⊢
  have hP : va_P (dC, dI) vwCl [(o0, .inl (co, 1, .inr (.inl (fun _ => 0)))), (y0, .inr (10, [.int 0, .ref m1, .int 0, .int 0, .int 0, .int (-1), .int 0, .int 0, .ref m8, .int 0, .int 0, .ref m11, .ref m12, .ref m13, .ref m14, .ref m15, .ref m16, .ref m17, .ref m18, .ref m19, .ref m20, .ref m21, .int 0, .int 0, .int 0, .ref m25, .ref m26, .int 0, .int 0, .ref m29, .ref m30, .ref m31, .ref m32, .int 0, .ref m34, .ref m35, .ref m36, .ref m37, .int 0, .int 0, .ref m40, .ref m41, .ref m42, .ref m43, .ref m44, .ref m45, .ref m46, .ref m47, .ref m48, .ref m49, .ref m50, .ref m51, .ref m52]))] H := hP
  have hD : va_D A [(o0, .inl (co, 1, .inr (.inl (fun _ => 0)))), (y0, .inr (10, [.int 0, .ref m1, .int 0, .int 0, .int 0, .int (-1), .int 0, .int 0, .ref m8, .int 0, .int 0, .ref m11, .ref m12, .ref m13, .ref m14, .ref m15, .ref m16, .ref m17, .ref m18, .ref m19, .ref m20, .ref m21, .int 0, .int 0, .int 0, .ref m25, .ref m26, .int 0, .int 0, .ref m29, .ref m30, .ref m31, .ref m32, .int 0, .ref m34, .ref m35, .ref m36, .ref m37, .int 0, .int 0, .ref m40, .ref m41, .ref m42, .ref m43, .ref m44, .ref m45, .ref m46, .ref m47, .ref m48, .ref m49, .ref m50, .ref m51, .ref m52]))] := hD
  have hK : va_K (dC, dI) vwCl [(d53, .int), (crf, .int), (co, .long)] s := hK
  refine W.widen (k := 6559) (n := 850824) (by omega) (by omega) ?_
  obtain rfl : r102 = 0 := hw
  refine lv_icmp_eq (tgt := 2301) hx hb dL_law_2296 (by decide) (fun _ => ?_) (fun c9 => absurd (by decide +kernel) c9)
  refine W.widen (k := 6567) (n := 850872) (by omega) (by omega) ?_
  exact hend H locs ls hS (lv_sub hl [0, 4] rfl)

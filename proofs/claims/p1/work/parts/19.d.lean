set_option maxHeartbeats 4000000 in
set_option maxRecDepth 100000 in
theorem lc_times {p : Program} {l : Launch} {e : Env} {s : State} {m : MethodId} {below : List Frame} {meth : Method} {c : Code} {dC : Nat → ClassId} {dI : Nat → Nat → Nat} {A : Nat → Prop} {b : Nat} {xs : Nat → Int32} (C0 : lx_C p l s m c A b xs) {x0 w1 w6 w8 w15 w22 w26 w31 w35 w40 w48 w50 w52 y0 m1 m8 m11 m12 m13 m14 m15 m16 m17 m18 m19 m20 m21 m25 m26 m29 m30 m31 m32 m34 m35 m36 m37 m40 m41 m42 m43 m44 m45 m46 m47 m48 m49 m50 m51 m52 o0 : Nat} {d53 crf co : ClassId}  {v1 : Int32} {v2 : Int32} (hs1 : xs (1 : Int32).toNatClampNeg = v1) (hs2 : xs (2 : Int32).toNatClampNeg = v2)
    (hend : ∀ (H : Heap) (locs : List Loc) (ls : Array Slot), va_S A s.heap H locs → lv_has ls 7 [(4, .int 0), (0, .ref b)] → W p l e room_1 s m #[Value.ref b] below meth c H locs 6567 850872 (lw_Z below #[Value.ref b] s) (F0 m 2301 ls []))
    {H : Heap} {locs : List Loc} {ls : Array Slot} (hP : va_P (dC, dI) vwCl [(x0, .inr (9, [.ref w1, .ref w6, .int 0, .ref w8, .ref w15, .int 0, .int 0, .ref w22, .ref w26, .ref w31, .ref w35, .ref w40, .ref w48, .ref w50, .ref w52])), (w52, .inl (d53, 3, .inl (fun _ => 0))), (y0, .inr (10, [.int 0, .ref m1, .int 0, .int 0, .int 0, .int (-1), .int 0, .int 0, .ref m8, .int 0, .int 0, .ref m11, .ref m12, .ref m13, .ref m14, .ref m15, .ref m16, .ref m17, .ref m18, .ref m19, .ref m20, .ref m21, .int 0, .int 0, .int 0, .ref m25, .ref m26, .int 0, .int 0, .ref m29, .ref m30, .ref m31, .ref m32, .int 0, .ref m34, .ref m35, .ref m36, .ref m37, .int 0, .int 0, .ref m40, .ref m41, .ref m42, .ref m43, .ref m44, .ref m45, .ref m46, .ref m47, .ref m48, .ref m49, .ref m50, .ref m51, .ref m52])), (m1, .inl (crf, 3, .inl (fun _ => 0))), (o0, .inl (co, 1, .inr (.inl (fun _ => 0))))] H) (hD : va_D A [(x0, .inr (9, [.ref w1, .ref w6, .int 0, .ref w8, .ref w15, .int 0, .int 0, .ref w22, .ref w26, .ref w31, .ref w35, .ref w40, .ref w48, .ref w50, .ref w52])), (w52, .inl (d53, 3, .inl (fun _ => 0))), (y0, .inr (10, [.int 0, .ref m1, .int 0, .int 0, .int 0, .int (-1), .int 0, .int 0, .ref m8, .int 0, .int 0, .ref m11, .ref m12, .ref m13, .ref m14, .ref m15, .ref m16, .ref m17, .ref m18, .ref m19, .ref m20, .ref m21, .int 0, .int 0, .int 0, .ref m25, .ref m26, .int 0, .int 0, .ref m29, .ref m30, .ref m31, .ref m32, .int 0, .ref m34, .ref m35, .ref m36, .ref m37, .int 0, .int 0, .ref m40, .ref m41, .ref m42, .ref m43, .ref m44, .ref m45, .ref m46, .ref m47, .ref m48, .ref m49, .ref m50, .ref m51, .ref m52])), (m1, .inl (crf, 3, .inl (fun _ => 0))), (o0, .inl (co, 1, .inr (.inl (fun _ => 0))))]) (hK : va_K (dC, dI) vwCl [(d53, .int), (crf, .int), (co, .long)] s) (hS : va_S A s.heap H locs) (hl : lv_has ls 7 [(4, .int 0), (3, .ref o0), (2, .ref y0), (1, .ref x0), (0, .ref b)]) : W p l e room_1 s m #[Value.ref b] below meth c H locs 6559 850824 (lw_Z below #[Value.ref b] s) (F0 m 1084 ls []) := by
  obtain ⟨hfl, hx, hb, hml, hown, hts, hX, hbl, hbA, hA, hEx, hNc⟩ := C0
  refine lv_aload_n hx hb dL_law_1084 rfl (lv_at hl 3 rfl) ?_
  refine lv_aload_n hx hb dL_law_1085 rfl (lv_at hl 4 rfl) ?_
  refine lv_iload hx hb dL_law_1086 (lv_at hl 0 rfl) ?_
  refine lv_iconst (v := 1) hx hb dL_law_1088 (by decide) ?_
  refine lv_iadd hx hb dL_law_1089 ?_
  refine lv_topi (fun x9 ex9 => ?_)
  obtain rfl : x9 = 1 := ex9.trans (by decide +kernel)
  refine va_sld hx hb hX hbl hbA hS (by unfold vp_in; decide +kernel) dL_law_1090 ?_
  refine lv_topi (fun x9 ex9 => ?_)
  obtain rfl : v1 = x9 := (ex9.trans hs1).symm
  refine lv_aload_n hx hb dL_law_1091 rfl (lv_at hl 4 rfl) ?_
  refine lv_iload hx hb dL_law_1092 (lv_at hl 0 rfl) ?_
  refine lv_iconst (v := 2) hx hb dL_law_1094 (by decide) ?_
  refine lv_iadd hx hb dL_law_1095 ?_
  refine lv_topi (fun x9 ex9 => ?_)
  obtain rfl : x9 = 2 := ex9.trans (by decide +kernel)
  refine va_sld hx hb hX hbl hbA hS (by unfold vp_in; decide +kernel) dL_law_1096 ?_
  refine lv_topi (fun x9 ex9 => ?_)
  obtain rfl : v2 = x9 := (ex9.trans hs2).symm
  refine lv_aload_n hx hb dL_law_1097 rfl (lv_at hl 1 rfl) ?_
  have hPc := hP.sub (ws' := [(x0, .inr (9, [.ref w1, .ref w6, .int 0, .ref w8, .ref w15, .int 0, .int 0, .ref w22, .ref w26, .ref w31, .ref w35, .ref w40, .ref w48, .ref w50, .ref w52])), (w52, .inl (d53, 3, .inl (fun _ => 0))), (o0, .inl (co, 1, .inr (.inl (fun _ => 0))))]) [0, 1, 4] rfl
  have hDc := hD.sub (ws' := [(x0, .inr (9, [.ref w1, .ref w6, .int 0, .ref w8, .ref w15, .int 0, .int 0, .ref w22, .ref w26, .ref w31, .ref w35, .ref w40, .ref w48, .ref w50, .ref w52])), (w52, .inl (d53, 3, .inl (fun _ => 0))), (o0, .inl (co, 1, .inr (.inl (fun _ => 0))))]) [0, 1, 4] (by decide) rfl
  have hKc := hK.sub (tys' := [(d53, .int), (co, .long)]) [0, 2] rfl
  have hFc := va_free (wc := [(x0, .inr (9, [.ref w1, .ref w6, .int 0, .ref w8, .ref w15, .int 0, .int 0, .ref w22, .ref w26, .ref w31, .ref w35, .ref w40, .ref w48, .ref w50, .ref w52])), (w52, .inl (d53, 3, .inl (fun _ => 0))), (o0, .inl (co, 1, .inr (.inl (fun _ => 0))))]) hD hS hA [0, 1, 4] rfl
  refine va_calli (vx_runSW (hh := [(0, 10, 13, 20)]) (As := [.ref x0, .int v1, .int v2, .ref o0]) (rest := []) ⟨hx, hb, hml, hown, hts⟩ (w_times l hfl dC dI H.size (x0) (w1) (w6) (w8) (w15) (w22) (w26) (w31) (w35) (w40) (w48) (w50) (w52) (d53) (o0) (co) (v1) (v2)) (vx_cwSW 4 hts (gW_G k969 k970 k0 k971) rfl rfl rfl (by decide +kernel) ⟨Nat.le_of_ble_eq_true rfl, Nat.le_of_ble_eq_true rfl⟩) ⟨fun a U g mk q => by obtain ⟨q0, q1, qP, qK, qD, qE⟩ := q; exact ⟨q0, q1, qP, va_K.moved (u := U) (U := U.calling g mk a) (Vm.Alike.refl U.vm) qK, qD, xX_call qE⟩, fun U hU hW => ⟨rfl, by rw [hU], by rw [hU]; exact hPc, va_K.moved hW.alike hKc, hDc.weaken (fun _ _ _ _ => trivial), xX_at hEx hS (fun q h => hFc q h) hU hW⟩⟩ rfl rfl hl.1 rfl (lv_room (Nat.le_of_ble_eq_true rfl)) dL_law_1098 ⟨Nat.le_of_ble_eq_true rfl, Nat.le_of_ble_eq_true rfl⟩) hS (fun q _ h => hFc q h) hFc (fun r101 u t H1 locs ht hvm hw hB hz1 hk1 hS => ?_)
  obtain ⟨hP1, hK1, hD1⟩ := hB
  rw [ht] at hP1
  have hK1 := va_K.moved hvm.symm hK1
  try dsimp only at hw
  obtain ⟨hP, hD⟩ := va_join (wr := [(y0, .inr (10, [.int 0, .ref m1, .int 0, .int 0, .int 0, .int (-1), .int 0, .int 0, .ref m8, .int 0, .int 0, .ref m11, .ref m12, .ref m13, .ref m14, .ref m15, .ref m16, .ref m17, .ref m18, .ref m19, .ref m20, .ref m21, .int 0, .int 0, .int 0, .ref m25, .ref m26, .int 0, .int 0, .ref m29, .ref m30, .ref m31, .ref m32, .int 0, .ref m34, .ref m35, .ref m36, .ref m37, .int 0, .int 0, .ref m40, .ref m41, .ref m42, .ref m43, .ref m44, .ref m45, .ref m46, .ref m47, .ref m48, .ref m49, .ref m50, .ref m51, .ref m52])), (m1, .inl (crf, 3, .inl (fun _ => 0)))]) (w1 := []) hP hD [0, 1, 4] [2, 3] rfl rfl (by decide) (by decide) hk1 hFc hP1 hD1
  have hK := hK.app hK1
  generalize H1 = H at hP hS ⊢
  have hP : va_P (dC, dI) vwCl [(y0, .inr (10, [.int 0, .ref m1, .int 0, .int 0, .int 0, .int (-1), .int 0, .int 0, .ref m8, .int 0, .int 0, .ref m11, .ref m12, .ref m13, .ref m14, .ref m15, .ref m16, .ref m17, .ref m18, .ref m19, .ref m20, .ref m21, .int 0, .int 0, .int 0, .ref m25, .ref m26, .int 0, .int 0, .ref m29, .ref m30, .ref m31, .ref m32, .int 0, .ref m34, .ref m35, .ref m36, .ref m37, .int 0, .int 0, .ref m40, .ref m41, .ref m42, .ref m43, .ref m44, .ref m45, .ref m46, .ref m47, .ref m48, .ref m49, .ref m50, .ref m51, .ref m52])), (m1, .inl (crf, 3, .inl (fun _ => 0)))] H := hP
  have hD : va_D A [(y0, .inr (10, [.int 0, .ref m1, .int 0, .int 0, .int 0, .int (-1), .int 0, .int 0, .ref m8, .int 0, .int 0, .ref m11, .ref m12, .ref m13, .ref m14, .ref m15, .ref m16, .ref m17, .ref m18, .ref m19, .ref m20, .ref m21, .int 0, .int 0, .int 0, .ref m25, .ref m26, .int 0, .int 0, .ref m29, .ref m30, .ref m31, .ref m32, .int 0, .ref m34, .ref m35, .ref m36, .ref m37, .int 0, .int 0, .ref m40, .ref m41, .ref m42, .ref m43, .ref m44, .ref m45, .ref m46, .ref m47, .ref m48, .ref m49, .ref m50, .ref m51, .ref m52])), (m1, .inl (crf, 3, .inl (fun _ => 0)))] := hD
  have hK : va_K (dC, dI) vwCl [(d53, .int), (crf, .int), (co, .long)] s := hK
  refine W.widen (k := 6561) (n := 850836) (by omega) (by omega) ?_
  obtain rfl : r101 = 1 := hw
  refine lv_istore (lv' := [(5, .int 1), (4, .int 0), (3, .ref o0), (2, .ref y0), (1, .ref x0), (0, .ref b)]) hx hb dL_law_1101 hl (by decide) rfl (fun ls hl => ?_)
  refine lv_aload_n hx hb dL_law_1103 rfl (lv_at hl 3 rfl) ?_
  refine lv_aload_n hx hb dL_law_1104 rfl (lv_at hl 5 rfl) ?_
  refine lv_iload hx hb dL_law_1105 (lv_at hl 1 rfl) ?_
  refine lv_iconst (v := 1) hx hb dL_law_1107 (by decide) ?_
  refine lv_iadd hx hb dL_law_1108 ?_
  refine lv_topi (fun x9 ex9 => ?_)
  obtain rfl : x9 = 1 := ex9.trans (by decide +kernel)
  refine va_sld hx hb hX hbl hbA hS (by unfold vp_in; decide +kernel) dL_law_1109 ?_
  refine lv_topi (fun x9 ex9 => ?_)
  obtain rfl : v1 = x9 := (ex9.trans hs1).symm
  refine lv_aload_n hx hb dL_law_1110 rfl (lv_at hl 5 rfl) ?_
  refine lv_iload hx hb dL_law_1111 (lv_at hl 1 rfl) ?_
  refine lv_iconst (v := 2) hx hb dL_law_1113 (by decide) ?_
  refine lv_iadd hx hb dL_law_1114 ?_
  refine lv_topi (fun x9 ex9 => ?_)
  obtain rfl : x9 = 2 := ex9.trans (by decide +kernel)
  refine va_sld hx hb hX hbl hbA hS (by unfold vp_in; decide +kernel) dL_law_1115 ?_
  refine lv_topi (fun x9 ex9 => ?_)
  obtain rfl : v2 = x9 := (ex9.trans hs2).symm
  have hPc := hP.sub (ws' := [(y0, .inr (10, [.int 0, .ref m1, .int 0, .int 0, .int 0, .int (-1), .int 0, .int 0, .ref m8, .int 0, .int 0, .ref m11, .ref m12, .ref m13, .ref m14, .ref m15, .ref m16, .ref m17, .ref m18, .ref m19, .ref m20, .ref m21, .int 0, .int 0, .int 0, .ref m25, .ref m26, .int 0, .int 0, .ref m29, .ref m30, .ref m31, .ref m32, .int 0, .ref m34, .ref m35, .ref m36, .ref m37, .int 0, .int 0, .ref m40, .ref m41, .ref m42, .ref m43, .ref m44, .ref m45, .ref m46, .ref m47, .ref m48, .ref m49, .ref m50, .ref m51, .ref m52])), (m1, .inl (crf, 3, .inl (fun _ => 0)))]) [0, 1] rfl
  have hDc := hD.sub (ws' := [(y0, .inr (10, [.int 0, .ref m1, .int 0, .int 0, .int 0, .int (-1), .int 0, .int 0, .ref m8, .int 0, .int 0, .ref m11, .ref m12, .ref m13, .ref m14, .ref m15, .ref m16, .ref m17, .ref m18, .ref m19, .ref m20, .ref m21, .int 0, .int 0, .int 0, .ref m25, .ref m26, .int 0, .int 0, .ref m29, .ref m30, .ref m31, .ref m32, .int 0, .ref m34, .ref m35, .ref m36, .ref m37, .int 0, .int 0, .ref m40, .ref m41, .ref m42, .ref m43, .ref m44, .ref m45, .ref m46, .ref m47, .ref m48, .ref m49, .ref m50, .ref m51, .ref m52])), (m1, .inl (crf, 3, .inl (fun _ => 0)))]) [0, 1] (by decide) rfl
  have hKc := hK.sub (tys' := [(crf, .int)]) [1] rfl
  have hFc := va_free (wc := [(y0, .inr (10, [.int 0, .ref m1, .int 0, .int 0, .int 0, .int (-1), .int 0, .int 0, .ref m8, .int 0, .int 0, .ref m11, .ref m12, .ref m13, .ref m14, .ref m15, .ref m16, .ref m17, .ref m18, .ref m19, .ref m20, .ref m21, .int 0, .int 0, .int 0, .ref m25, .ref m26, .int 0, .int 0, .ref m29, .ref m30, .ref m31, .ref m32, .int 0, .ref m34, .ref m35, .ref m36, .ref m37, .int 0, .int 0, .ref m40, .ref m41, .ref m42, .ref m43, .ref m44, .ref m45, .ref m46, .ref m47, .ref m48, .ref m49, .ref m50, .ref m51, .ref m52])), (m1, .inl (crf, 3, .inl (fun _ => 0)))]) hD hS hA [0, 1] rfl
  refine va_calli (va_runV (As := [.int v1, .int v2]) (rest := []) ⟨hx, hb, hml, hown, hts⟩ (m_times l dC dI H.size (y0) (m1) (m8) (m11) (m12) (m13) (m14) (m15) (m16) (m17) (m18) (m19) (m20) (m21) (m25) (m26) (m29) (m30) (m31) (m32) (m34) (m35) (m36) (m37) (m40) (m41) (m42) (m43) (m44) (m45) (m46) (m47) (m48) (m49) (m50) (m51) (m52) (crf) (v1) (v2)) (cwV 2 hts (gV_G k1663 k1664 k1665 k13 k1666) rfl rfl rfl (by decide +kernel) ⟨Nat.le_of_ble_eq_true rfl, Nat.le_of_ble_eq_true rfl⟩) ⟨fun a U g mk q => by obtain ⟨q0, q1, qP, qK, qD⟩ := q; exact ⟨q0, q1, qP, va_K.moved (u := U) (U := U.calling g mk a) (Vm.Alike.refl U.vm) qK, qD⟩, va_recv hKc hPc (ci := 10) (q0 := 0) rfl rfl, fun U hU hW => ⟨rfl, by rw [hU], by rw [hU]; exact hPc, va_K.moved hW.alike hKc, hDc.weaken (fun _ _ _ _ => trivial)⟩⟩ rfl rfl hl.1 rfl (lv_room (Nat.le_of_ble_eq_true rfl)) dL_law_1116 ⟨Nat.le_of_ble_eq_true rfl, Nat.le_of_ble_eq_true rfl⟩) hS (fun q _ h => hFc q h) hFc (fun r102 u t H1 locs ht hvm hw hB hz1 hk1 hS => ?_)
  obtain ⟨hP1, hK1, hD1⟩ := hB
  rw [ht] at hP1
  have hK1 := va_K.moved hvm.symm hK1
  try dsimp only at hw
  obtain ⟨hP, hD⟩ := va_join (wr := []) (w1 := [(y0, .inr (10, [.int 1, .ref m1, .int 0, .int 0, .int 0, .int (-1), .int 0, .int 0, .ref m8, .int 0, .int 0, .ref m11, .ref m12, .ref m13, .ref m14, .ref m15, .ref m16, .ref m17, .ref m18, .ref m19, .ref m20, .ref m21, .int 0, .int 0, .int 0, .ref m25, .ref m26, .int 0, .int 0, .ref m29, .ref m30, .ref m31, .ref m32, .int 0, .ref m34, .ref m35, .ref m36, .ref m37, .int 0, .int 0, .ref m40, .ref m41, .ref m42, .ref m43, .ref m44, .ref m45, .ref m46, .ref m47, .ref m48, .ref m49, .ref m50, .ref m51, .ref m52]))]) hP hD [0, 1] [] rfl rfl (by decide) (by decide) hk1 hFc hP1 hD1
  have hK := hK.app hK1
  generalize H1 = H at hP hS ⊢
  have hP : va_P (dC, dI) vwCl [(y0, .inr (10, [.int 1, .ref m1, .int 0, .int 0, .int 0, .int (-1), .int 0, .int 0, .ref m8, .int 0, .int 0, .ref m11, .ref m12, .ref m13, .ref m14, .ref m15, .ref m16, .ref m17, .ref m18, .ref m19, .ref m20, .ref m21, .int 0, .int 0, .int 0, .ref m25, .ref m26, .int 0, .int 0, .ref m29, .ref m30, .ref m31, .ref m32, .int 0, .ref m34, .ref m35, .ref m36, .ref m37, .int 0, .int 0, .ref m40, .ref m41, .ref m42, .ref m43, .ref m44, .ref m45, .ref m46, .ref m47, .ref m48, .ref m49, .ref m50, .ref m51, .ref m52]))] H := hP
  have hD : va_D A [(y0, .inr (10, [.int 1, .ref m1, .int 0, .int 0, .int 0, .int (-1), .int 0, .int 0, .ref m8, .int 0, .int 0, .ref m11, .ref m12, .ref m13, .ref m14, .ref m15, .ref m16, .ref m17, .ref m18, .ref m19, .ref m20, .ref m21, .int 0, .int 0, .int 0, .ref m25, .ref m26, .int 0, .int 0, .ref m29, .ref m30, .ref m31, .ref m32, .int 0, .ref m34, .ref m35, .ref m36, .ref m37, .int 0, .int 0, .ref m40, .ref m41, .ref m42, .ref m43, .ref m44, .ref m45, .ref m46, .ref m47, .ref m48, .ref m49, .ref m50, .ref m51, .ref m52]))] := hD
  have hK : va_K (dC, dI) vwCl [(d53, .int), (crf, .int), (co, .long)] s := hK
  refine W.widen (k := 6561) (n := 850836) (by omega) (by omega) ?_
  obtain rfl : r102 = 0 := hw
  refine lv_istore (lv' := [(6, .int 0), (5, .int 1), (4, .int 0), (3, .ref o0), (2, .ref y0), (1, .ref x0), (0, .ref b)]) hx hb dL_law_1119 hl (by decide) rfl (fun ls hl => ?_)
  refine lv_aload_n hx hb dL_law_1121 rfl (lv_at hl 4 rfl) ?_
  have hPc := hP.sub (ws' := [(y0, .inr (10, [.int 1, .ref m1, .int 0, .int 0, .int 0, .int (-1), .int 0, .int 0, .ref m8, .int 0, .int 0, .ref m11, .ref m12, .ref m13, .ref m14, .ref m15, .ref m16, .ref m17, .ref m18, .ref m19, .ref m20, .ref m21, .int 0, .int 0, .int 0, .ref m25, .ref m26, .int 0, .int 0, .ref m29, .ref m30, .ref m31, .ref m32, .int 0, .ref m34, .ref m35, .ref m36, .ref m37, .int 0, .int 0, .ref m40, .ref m41, .ref m42, .ref m43, .ref m44, .ref m45, .ref m46, .ref m47, .ref m48, .ref m49, .ref m50, .ref m51, .ref m52]))]) [0] rfl
  have hDc := hD.sub (ws' := [(y0, .inr (10, [.int 1, .ref m1, .int 0, .int 0, .int 0, .int (-1), .int 0, .int 0, .ref m8, .int 0, .int 0, .ref m11, .ref m12, .ref m13, .ref m14, .ref m15, .ref m16, .ref m17, .ref m18, .ref m19, .ref m20, .ref m21, .int 0, .int 0, .int 0, .ref m25, .ref m26, .int 0, .int 0, .ref m29, .ref m30, .ref m31, .ref m32, .int 0, .ref m34, .ref m35, .ref m36, .ref m37, .int 0, .int 0, .ref m40, .ref m41, .ref m42, .ref m43, .ref m44, .ref m45, .ref m46, .ref m47, .ref m48, .ref m49, .ref m50, .ref m51, .ref m52]))]) [0] (by decide) rfl
  have hKc := hK.sub (tys' := []) [] rfl
  have hFc := va_free (wc := [(y0, .inr (10, [.int 1, .ref m1, .int 0, .int 0, .int 0, .int (-1), .int 0, .int 0, .ref m8, .int 0, .int 0, .ref m11, .ref m12, .ref m13, .ref m14, .ref m15, .ref m16, .ref m17, .ref m18, .ref m19, .ref m20, .ref m21, .int 0, .int 0, .int 0, .ref m25, .ref m26, .int 0, .int 0, .ref m29, .ref m30, .ref m31, .ref m32, .int 0, .ref m34, .ref m35, .ref m36, .ref m37, .int 0, .int 0, .ref m40, .ref m41, .ref m42, .ref m43, .ref m44, .ref m45, .ref m46, .ref m47, .ref m48, .ref m49, .ref m50, .ref m51, .ref m52]))]) hD hS hA [0] rfl
  refine va_calli (va_runV (As := []) (rest := []) ⟨hx, hb, hml, hown, hts⟩ (m_thrown l dC dI H.size (y0) (1) (m1) (0) (0) (0) ((-1)) (0) (0) (m8) (0) (0) (m11) (m12) (m13) (m14) (m15) (m16) (m17) (m18) (m19) (m20) (m21) (0) (0) (0) (m25) (m26) (0) (0) (m29) (m30) (m31) (m32) (0) (m34) (m35) (m36) (m37) (0) (0) (m40) (m41) (m42) (m43) (m44) (m45) (m46) (m47) (m48) (m49) (m50) (m51) (m52)) (cwV 0 hts (gV_G k1327 k1328 k1329 k13 k1330) rfl rfl rfl (by decide +kernel) ⟨Nat.le_of_ble_eq_true rfl, Nat.le_of_ble_eq_true rfl⟩) ⟨fun a U g mk q => by obtain ⟨q0, q1, qP, qK, qD⟩ := q; exact ⟨q0, q1, qP, va_K.moved (u := U) (U := U.calling g mk a) (Vm.Alike.refl U.vm) qK, qD⟩, va_recv hKc hPc (ci := 10) (q0 := 0) rfl rfl, fun U hU hW => ⟨rfl, by rw [hU], by rw [hU]; exact hPc, va_K.moved hW.alike hKc, hDc.weaken (fun _ _ _ _ => trivial)⟩⟩ rfl rfl hl.1 rfl (lv_room (Nat.le_of_ble_eq_true rfl)) dL_law_1122 ⟨Nat.le_of_ble_eq_true rfl, Nat.le_of_ble_eq_true rfl⟩) hS (fun q _ h => hFc q h) hFc (fun r103 u t H1 locs ht hvm hw hB hz1 hk1 hS => ?_)
  obtain ⟨hP1, hK1, hD1⟩ := hB
  rw [ht] at hP1
  have hK1 := va_K.moved hvm.symm hK1
  try dsimp only at hw
  obtain ⟨hP, hD⟩ := va_join (wr := []) (w1 := []) hP hD [0] [] rfl rfl (by decide) (by decide) hk1 hFc hP1 hD1
  have hK := hK.app hK1
  generalize H1 = H at hP hS ⊢
  have hP : va_P (dC, dI) vwCl [] H := hP
  have hD : va_D A [] := hD
  have hK : va_K (dC, dI) vwCl [(d53, .int), (crf, .int), (co, .long)] s := hK
  refine W.widen (k := 6561) (n := 850836) (by omega) (by omega) ?_
  obtain rfl : r103 = 1 := hw
  refine lv_iload hx hb dL_law_1125 (lv_at hl 1 rfl) ?_
  refine lv_icmp_eq (tgt := 1132) hx hb dL_law_1127 (by decide) (fun _ => ?_) (fun c9 => absurd (by decide +kernel) c9)
  refine lv_iload hx hb dL_law_1132 (lv_at hl 1 rfl) ?_
  refine lv_if_ne (tgt := 1149) hx hb dL_law_1134 (by decide) (fun _ => ?_) (fun c9 => absurd c9 (by decide +kernel))
  refine lv_goto (tgt := 2301) hx hb dL_law_1149 (by decide) ?_
  refine W.widen (k := 6567) (n := 850872) (by omega) (by omega) ?_
  exact hend H locs ls hS (lv_sub hl [2, 6] rfl)
set_option maxHeartbeats 4000000 in
set_option maxRecDepth 100000 in
theorem lc_passes {p : Program} {l : Launch} {e : Env} {s : State} {m : MethodId} {below : List Frame} {meth : Method} {c : Code} {dC : Nat → ClassId} {dI : Nat → Nat → Nat} {A : Nat → Prop} {b : Nat} {xs : Nat → Int32} (C0 : lx_C p l s m c A b xs) {x0 w1 w6 w8 w15 w22 w26 w31 w35 w40 w48 w50 w52 y0 m1 m8 m11 m12 m13 m14 m15 m16 m17 m18 m19 m20 m21 m25 m26 m29 m30 m31 m32 m34 m35 m36 m37 m40 m41 m42 m43 m44 m45 m46 m47 m48 m49 m50 m51 m52 o0 : Nat} {d53 crf co : ClassId}  {v1 : Int32} {v2 : Int32} (hs1 : xs (1 : Int32).toNatClampNeg = v1) (hs2 : xs (2 : Int32).toNatClampNeg = v2)
    (hend : ∀ (H : Heap) (locs : List Loc) (ls : Array Slot), va_S A s.heap H locs → lv_has ls 7 [(4, .int 0), (0, .ref b)] → W p l e room_1 s m #[Value.ref b] below meth c H locs 6567 850872 (lw_Z below #[Value.ref b] s) (F0 m 2301 ls []))
    {H : Heap} {locs : List Loc} {ls : Array Slot} (hP : va_P (dC, dI) vwCl [(x0, .inr (9, [.ref w1, .ref w6, .int 0, .ref w8, .ref w15, .int 0, .int 0, .ref w22, .ref w26, .ref w31, .ref w35, .ref w40, .ref w48, .ref w50, .ref w52])), (w52, .inl (d53, 3, .inl (fun _ => 0))), (y0, .inr (10, [.int 0, .ref m1, .int 0, .int 0, .int 0, .int (-1), .int 0, .int 0, .ref m8, .int 0, .int 0, .ref m11, .ref m12, .ref m13, .ref m14, .ref m15, .ref m16, .ref m17, .ref m18, .ref m19, .ref m20, .ref m21, .int 0, .int 0, .int 0, .ref m25, .ref m26, .int 0, .int 0, .ref m29, .ref m30, .ref m31, .ref m32, .int 0, .ref m34, .ref m35, .ref m36, .ref m37, .int 0, .int 0, .ref m40, .ref m41, .ref m42, .ref m43, .ref m44, .ref m45, .ref m46, .ref m47, .ref m48, .ref m49, .ref m50, .ref m51, .ref m52])), (m1, .inl (crf, 3, .inl (fun _ => 0))), (o0, .inl (co, 1, .inr (.inl (fun _ => 0))))] H) (hD : va_D A [(x0, .inr (9, [.ref w1, .ref w6, .int 0, .ref w8, .ref w15, .int 0, .int 0, .ref w22, .ref w26, .ref w31, .ref w35, .ref w40, .ref w48, .ref w50, .ref w52])), (w52, .inl (d53, 3, .inl (fun _ => 0))), (y0, .inr (10, [.int 0, .ref m1, .int 0, .int 0, .int 0, .int (-1), .int 0, .int 0, .ref m8, .int 0, .int 0, .ref m11, .ref m12, .ref m13, .ref m14, .ref m15, .ref m16, .ref m17, .ref m18, .ref m19, .ref m20, .ref m21, .int 0, .int 0, .int 0, .ref m25, .ref m26, .int 0, .int 0, .ref m29, .ref m30, .ref m31, .ref m32, .int 0, .ref m34, .ref m35, .ref m36, .ref m37, .int 0, .int 0, .ref m40, .ref m41, .ref m42, .ref m43, .ref m44, .ref m45, .ref m46, .ref m47, .ref m48, .ref m49, .ref m50, .ref m51, .ref m52])), (m1, .inl (crf, 3, .inl (fun _ => 0))), (o0, .inl (co, 1, .inr (.inl (fun _ => 0))))]) (hK : va_K (dC, dI) vwCl [(d53, .int), (crf, .int), (co, .long)] s) (hS : va_S A s.heap H locs) (hl : lv_has ls 7 [(4, .int 0), (3, .ref o0), (2, .ref y0), (1, .ref x0), (0, .ref b)]) : W p l e room_1 s m #[Value.ref b] below meth c H locs 6559 850824 (lw_Z below #[Value.ref b] s) (F0 m 1152 ls []) := by
  obtain ⟨hfl, hx, hb, hml, hown, hts, hX, hbl, hbA, hA, hEx, hNc⟩ := C0
  refine lv_aload_n hx hb dL_law_1152 rfl (lv_at hl 3 rfl) ?_
  refine lv_aload_n hx hb dL_law_1153 rfl (lv_at hl 4 rfl) ?_
  refine lv_iload hx hb dL_law_1154 (lv_at hl 0 rfl) ?_
  refine lv_iconst (v := 1) hx hb dL_law_1156 (by decide) ?_
  refine lv_iadd hx hb dL_law_1157 ?_
  refine lv_topi (fun x9 ex9 => ?_)
  obtain rfl : x9 = 1 := ex9.trans (by decide +kernel)
  refine va_sld hx hb hX hbl hbA hS (by unfold vp_in; decide +kernel) dL_law_1158 ?_
  refine lv_topi (fun x9 ex9 => ?_)
  obtain rfl : v1 = x9 := (ex9.trans hs1).symm
  refine lv_aload_n hx hb dL_law_1159 rfl (lv_at hl 4 rfl) ?_
  refine lv_iload hx hb dL_law_1160 (lv_at hl 0 rfl) ?_
  refine lv_iconst (v := 2) hx hb dL_law_1162 (by decide) ?_
  refine lv_iadd hx hb dL_law_1163 ?_
  refine lv_topi (fun x9 ex9 => ?_)
  obtain rfl : x9 = 2 := ex9.trans (by decide +kernel)
  refine va_sld hx hb hX hbl hbA hS (by unfold vp_in; decide +kernel) dL_law_1164 ?_
  refine lv_topi (fun x9 ex9 => ?_)
  obtain rfl : v2 = x9 := (ex9.trans hs2).symm
  refine lv_aload_n hx hb dL_law_1165 rfl (lv_at hl 1 rfl) ?_
  have hPc := hP.sub (ws' := [(x0, .inr (9, [.ref w1, .ref w6, .int 0, .ref w8, .ref w15, .int 0, .int 0, .ref w22, .ref w26, .ref w31, .ref w35, .ref w40, .ref w48, .ref w50, .ref w52])), (w52, .inl (d53, 3, .inl (fun _ => 0))), (o0, .inl (co, 1, .inr (.inl (fun _ => 0))))]) [0, 1, 4] rfl
  have hDc := hD.sub (ws' := [(x0, .inr (9, [.ref w1, .ref w6, .int 0, .ref w8, .ref w15, .int 0, .int 0, .ref w22, .ref w26, .ref w31, .ref w35, .ref w40, .ref w48, .ref w50, .ref w52])), (w52, .inl (d53, 3, .inl (fun _ => 0))), (o0, .inl (co, 1, .inr (.inl (fun _ => 0))))]) [0, 1, 4] (by decide) rfl
  have hKc := hK.sub (tys' := [(d53, .int), (co, .long)]) [0, 2] rfl
  have hFc := va_free (wc := [(x0, .inr (9, [.ref w1, .ref w6, .int 0, .ref w8, .ref w15, .int 0, .int 0, .ref w22, .ref w26, .ref w31, .ref w35, .ref w40, .ref w48, .ref w50, .ref w52])), (w52, .inl (d53, 3, .inl (fun _ => 0))), (o0, .inl (co, 1, .inr (.inl (fun _ => 0))))]) hD hS hA [0, 1, 4] rfl
  refine va_calli (vx_runSW (hh := [(0, 10, 13, 20)]) (As := [.ref x0, .int v1, .int v2, .ref o0]) (rest := []) ⟨hx, hb, hml, hown, hts⟩ (w_passes l hfl dC dI H.size (x0) (w1) (w6) (w8) (w15) (w22) (w26) (w31) (w35) (w40) (w48) (w50) (w52) (d53) (o0) (co) (v1) (v2)) (vx_cwSW 4 hts (gW_G k976 k977 k0 k978) rfl rfl rfl (by decide +kernel) ⟨Nat.le_of_ble_eq_true rfl, Nat.le_of_ble_eq_true rfl⟩) ⟨fun a U g mk q => by obtain ⟨q0, q1, qP, qK, qD, qE⟩ := q; exact ⟨q0, q1, qP, va_K.moved (u := U) (U := U.calling g mk a) (Vm.Alike.refl U.vm) qK, qD, xX_call qE⟩, fun U hU hW => ⟨rfl, by rw [hU], by rw [hU]; exact hPc, va_K.moved hW.alike hKc, hDc.weaken (fun _ _ _ _ => trivial), xX_at hEx hS (fun q h => hFc q h) hU hW⟩⟩ rfl rfl hl.1 rfl (lv_room (Nat.le_of_ble_eq_true rfl)) dL_law_1166 ⟨Nat.le_of_ble_eq_true rfl, Nat.le_of_ble_eq_true rfl⟩) hS (fun q _ h => hFc q h) hFc (fun r101 u t H1 locs ht hvm hw hB hz1 hk1 hS => ?_)
  obtain ⟨hP1, hK1, hD1⟩ := hB
  rw [ht] at hP1
  have hK1 := va_K.moved hvm.symm hK1
  try dsimp only at hw
  obtain ⟨hP, hD⟩ := va_join (wr := [(y0, .inr (10, [.int 0, .ref m1, .int 0, .int 0, .int 0, .int (-1), .int 0, .int 0, .ref m8, .int 0, .int 0, .ref m11, .ref m12, .ref m13, .ref m14, .ref m15, .ref m16, .ref m17, .ref m18, .ref m19, .ref m20, .ref m21, .int 0, .int 0, .int 0, .ref m25, .ref m26, .int 0, .int 0, .ref m29, .ref m30, .ref m31, .ref m32, .int 0, .ref m34, .ref m35, .ref m36, .ref m37, .int 0, .int 0, .ref m40, .ref m41, .ref m42, .ref m43, .ref m44, .ref m45, .ref m46, .ref m47, .ref m48, .ref m49, .ref m50, .ref m51, .ref m52])), (m1, .inl (crf, 3, .inl (fun _ => 0)))]) (w1 := []) hP hD [0, 1, 4] [2, 3] rfl rfl (by decide) (by decide) hk1 hFc hP1 hD1
  have hK := hK.app hK1
  generalize H1 = H at hP hS ⊢
  have hP : va_P (dC, dI) vwCl [(y0, .inr (10, [.int 0, .ref m1, .int 0, .int 0, .int 0, .int (-1), .int 0, .int 0, .ref m8, .int 0, .int 0, .ref m11, .ref m12, .ref m13, .ref m14, .ref m15, .ref m16, .ref m17, .ref m18, .ref m19, .ref m20, .ref m21, .int 0, .int 0, .int 0, .ref m25, .ref m26, .int 0, .int 0, .ref m29, .ref m30, .ref m31, .ref m32, .int 0, .ref m34, .ref m35, .ref m36, .ref m37, .int 0, .int 0, .ref m40, .ref m41, .ref m42, .ref m43, .ref m44, .ref m45, .ref m46, .ref m47, .ref m48, .ref m49, .ref m50, .ref m51, .ref m52])), (m1, .inl (crf, 3, .inl (fun _ => 0)))] H := hP
  have hD : va_D A [(y0, .inr (10, [.int 0, .ref m1, .int 0, .int 0, .int 0, .int (-1), .int 0, .int 0, .ref m8, .int 0, .int 0, .ref m11, .ref m12, .ref m13, .ref m14, .ref m15, .ref m16, .ref m17, .ref m18, .ref m19, .ref m20, .ref m21, .int 0, .int 0, .int 0, .ref m25, .ref m26, .int 0, .int 0, .ref m29, .ref m30, .ref m31, .ref m32, .int 0, .ref m34, .ref m35, .ref m36, .ref m37, .int 0, .int 0, .ref m40, .ref m41, .ref m42, .ref m43, .ref m44, .ref m45, .ref m46, .ref m47, .ref m48, .ref m49, .ref m50, .ref m51, .ref m52])), (m1, .inl (crf, 3, .inl (fun _ => 0)))] := hD
  have hK : va_K (dC, dI) vwCl [(d53, .int), (crf, .int), (co, .long)] s := hK
  refine W.widen (k := 6561) (n := 850836) (by omega) (by omega) ?_
  obtain rfl : r101 = 1 := hw
  refine lv_istore (lv' := [(5, .int 1), (4, .int 0), (3, .ref o0), (2, .ref y0), (1, .ref x0), (0, .ref b)]) hx hb dL_law_1169 hl (by decide) rfl (fun ls hl => ?_)
  refine lv_aload_n hx hb dL_law_1171 rfl (lv_at hl 3 rfl) ?_
  refine lv_aload_n hx hb dL_law_1172 rfl (lv_at hl 5 rfl) ?_
  refine lv_iload hx hb dL_law_1173 (lv_at hl 1 rfl) ?_
  refine lv_iconst (v := 1) hx hb dL_law_1175 (by decide) ?_
  refine lv_iadd hx hb dL_law_1176 ?_
  refine lv_topi (fun x9 ex9 => ?_)
  obtain rfl : x9 = 1 := ex9.trans (by decide +kernel)
  refine va_sld hx hb hX hbl hbA hS (by unfold vp_in; decide +kernel) dL_law_1177 ?_
  refine lv_topi (fun x9 ex9 => ?_)
  obtain rfl : v1 = x9 := (ex9.trans hs1).symm
  refine lv_aload_n hx hb dL_law_1178 rfl (lv_at hl 5 rfl) ?_
  refine lv_iload hx hb dL_law_1179 (lv_at hl 1 rfl) ?_
  refine lv_iconst (v := 2) hx hb dL_law_1181 (by decide) ?_
  refine lv_iadd hx hb dL_law_1182 ?_
  refine lv_topi (fun x9 ex9 => ?_)
  obtain rfl : x9 = 2 := ex9.trans (by decide +kernel)
  refine va_sld hx hb hX hbl hbA hS (by unfold vp_in; decide +kernel) dL_law_1183 ?_
  refine lv_topi (fun x9 ex9 => ?_)
  obtain rfl : v2 = x9 := (ex9.trans hs2).symm
  have hPc := hP.sub (ws' := [(y0, .inr (10, [.int 0, .ref m1, .int 0, .int 0, .int 0, .int (-1), .int 0, .int 0, .ref m8, .int 0, .int 0, .ref m11, .ref m12, .ref m13, .ref m14, .ref m15, .ref m16, .ref m17, .ref m18, .ref m19, .ref m20, .ref m21, .int 0, .int 0, .int 0, .ref m25, .ref m26, .int 0, .int 0, .ref m29, .ref m30, .ref m31, .ref m32, .int 0, .ref m34, .ref m35, .ref m36, .ref m37, .int 0, .int 0, .ref m40, .ref m41, .ref m42, .ref m43, .ref m44, .ref m45, .ref m46, .ref m47, .ref m48, .ref m49, .ref m50, .ref m51, .ref m52])), (m1, .inl (crf, 3, .inl (fun _ => 0)))]) [0, 1] rfl
  have hDc := hD.sub (ws' := [(y0, .inr (10, [.int 0, .ref m1, .int 0, .int 0, .int 0, .int (-1), .int 0, .int 0, .ref m8, .int 0, .int 0, .ref m11, .ref m12, .ref m13, .ref m14, .ref m15, .ref m16, .ref m17, .ref m18, .ref m19, .ref m20, .ref m21, .int 0, .int 0, .int 0, .ref m25, .ref m26, .int 0, .int 0, .ref m29, .ref m30, .ref m31, .ref m32, .int 0, .ref m34, .ref m35, .ref m36, .ref m37, .int 0, .int 0, .ref m40, .ref m41, .ref m42, .ref m43, .ref m44, .ref m45, .ref m46, .ref m47, .ref m48, .ref m49, .ref m50, .ref m51, .ref m52])), (m1, .inl (crf, 3, .inl (fun _ => 0)))]) [0, 1] (by decide) rfl
  have hKc := hK.sub (tys' := [(crf, .int)]) [1] rfl
  have hFc := va_free (wc := [(y0, .inr (10, [.int 0, .ref m1, .int 0, .int 0, .int 0, .int (-1), .int 0, .int 0, .ref m8, .int 0, .int 0, .ref m11, .ref m12, .ref m13, .ref m14, .ref m15, .ref m16, .ref m17, .ref m18, .ref m19, .ref m20, .ref m21, .int 0, .int 0, .int 0, .ref m25, .ref m26, .int 0, .int 0, .ref m29, .ref m30, .ref m31, .ref m32, .int 0, .ref m34, .ref m35, .ref m36, .ref m37, .int 0, .int 0, .ref m40, .ref m41, .ref m42, .ref m43, .ref m44, .ref m45, .ref m46, .ref m47, .ref m48, .ref m49, .ref m50, .ref m51, .ref m52])), (m1, .inl (crf, 3, .inl (fun _ => 0)))]) hD hS hA [0, 1] rfl
  refine va_calli (va_runV (As := [.int v1, .int v2]) (rest := []) ⟨hx, hb, hml, hown, hts⟩ (m_passes l dC dI H.size (y0) (m1) (m8) (m11) (m12) (m13) (m14) (m15) (m16) (m17) (m18) (m19) (m20) (m21) (m25) (m26) (m29) (m30) (m31) (m32) (m34) (m35) (m36) (m37) (m40) (m41) (m42) (m43) (m44) (m45) (m46) (m47) (m48) (m49) (m50) (m51) (m52) (crf) (v1) (v2)) (cwV 2 hts (gV_G k1671 k1672 k1673 k13 k1674) rfl rfl rfl (by decide +kernel) ⟨Nat.le_of_ble_eq_true rfl, Nat.le_of_ble_eq_true rfl⟩) ⟨fun a U g mk q => by obtain ⟨q0, q1, qP, qK, qD⟩ := q; exact ⟨q0, q1, qP, va_K.moved (u := U) (U := U.calling g mk a) (Vm.Alike.refl U.vm) qK, qD⟩, va_recv hKc hPc (ci := 10) (q0 := 0) rfl rfl, fun U hU hW => ⟨rfl, by rw [hU], by rw [hU]; exact hPc, va_K.moved hW.alike hKc, hDc.weaken (fun _ _ _ _ => trivial)⟩⟩ rfl rfl hl.1 rfl (lv_room (Nat.le_of_ble_eq_true rfl)) dL_law_1184 ⟨Nat.le_of_ble_eq_true rfl, Nat.le_of_ble_eq_true rfl⟩) hS (fun q _ h => hFc q h) hFc (fun r102 u t H1 locs ht hvm hw hB hz1 hk1 hS => ?_)
  obtain ⟨hP1, hK1, hD1⟩ := hB
  rw [ht] at hP1
  have hK1 := va_K.moved hvm.symm hK1
  try dsimp only at hw
  obtain ⟨hP, hD⟩ := va_join (wr := []) (w1 := [(y0, .inr (10, [.int 1, .ref m1, .int 0, .int 0, .int 0, .int (-1), .int 0, .int 0, .ref m8, .int 0, .int 0, .ref m11, .ref m12, .ref m13, .ref m14, .ref m15, .ref m16, .ref m17, .ref m18, .ref m19, .ref m20, .ref m21, .int 0, .int 0, .int 0, .ref m25, .ref m26, .int 0, .int 0, .ref m29, .ref m30, .ref m31, .ref m32, .int 0, .ref m34, .ref m35, .ref m36, .ref m37, .int 0, .int 0, .ref m40, .ref m41, .ref m42, .ref m43, .ref m44, .ref m45, .ref m46, .ref m47, .ref m48, .ref m49, .ref m50, .ref m51, .ref m52]))]) hP hD [0, 1] [] rfl rfl (by decide) (by decide) hk1 hFc hP1 hD1
  have hK := hK.app hK1
  generalize H1 = H at hP hS ⊢
  have hP : va_P (dC, dI) vwCl [(y0, .inr (10, [.int 1, .ref m1, .int 0, .int 0, .int 0, .int (-1), .int 0, .int 0, .ref m8, .int 0, .int 0, .ref m11, .ref m12, .ref m13, .ref m14, .ref m15, .ref m16, .ref m17, .ref m18, .ref m19, .ref m20, .ref m21, .int 0, .int 0, .int 0, .ref m25, .ref m26, .int 0, .int 0, .ref m29, .ref m30, .ref m31, .ref m32, .int 0, .ref m34, .ref m35, .ref m36, .ref m37, .int 0, .int 0, .ref m40, .ref m41, .ref m42, .ref m43, .ref m44, .ref m45, .ref m46, .ref m47, .ref m48, .ref m49, .ref m50, .ref m51, .ref m52]))] H := hP
  have hD : va_D A [(y0, .inr (10, [.int 1, .ref m1, .int 0, .int 0, .int 0, .int (-1), .int 0, .int 0, .ref m8, .int 0, .int 0, .ref m11, .ref m12, .ref m13, .ref m14, .ref m15, .ref m16, .ref m17, .ref m18, .ref m19, .ref m20, .ref m21, .int 0, .int 0, .int 0, .ref m25, .ref m26, .int 0, .int 0, .ref m29, .ref m30, .ref m31, .ref m32, .int 0, .ref m34, .ref m35, .ref m36, .ref m37, .int 0, .int 0, .ref m40, .ref m41, .ref m42, .ref m43, .ref m44, .ref m45, .ref m46, .ref m47, .ref m48, .ref m49, .ref m50, .ref m51, .ref m52]))] := hD
  have hK : va_K (dC, dI) vwCl [(d53, .int), (crf, .int), (co, .long)] s := hK
  refine W.widen (k := 6561) (n := 850836) (by omega) (by omega) ?_
  obtain rfl : r102 = 0 := hw
  refine lv_istore (lv' := [(6, .int 0), (5, .int 1), (4, .int 0), (3, .ref o0), (2, .ref y0), (1, .ref x0), (0, .ref b)]) hx hb dL_law_1187 hl (by decide) rfl (fun ls hl => ?_)
  refine lv_aload_n hx hb dL_law_1189 rfl (lv_at hl 4 rfl) ?_
  have hPc := hP.sub (ws' := [(y0, .inr (10, [.int 1, .ref m1, .int 0, .int 0, .int 0, .int (-1), .int 0, .int 0, .ref m8, .int 0, .int 0, .ref m11, .ref m12, .ref m13, .ref m14, .ref m15, .ref m16, .ref m17, .ref m18, .ref m19, .ref m20, .ref m21, .int 0, .int 0, .int 0, .ref m25, .ref m26, .int 0, .int 0, .ref m29, .ref m30, .ref m31, .ref m32, .int 0, .ref m34, .ref m35, .ref m36, .ref m37, .int 0, .int 0, .ref m40, .ref m41, .ref m42, .ref m43, .ref m44, .ref m45, .ref m46, .ref m47, .ref m48, .ref m49, .ref m50, .ref m51, .ref m52]))]) [0] rfl
  have hDc := hD.sub (ws' := [(y0, .inr (10, [.int 1, .ref m1, .int 0, .int 0, .int 0, .int (-1), .int 0, .int 0, .ref m8, .int 0, .int 0, .ref m11, .ref m12, .ref m13, .ref m14, .ref m15, .ref m16, .ref m17, .ref m18, .ref m19, .ref m20, .ref m21, .int 0, .int 0, .int 0, .ref m25, .ref m26, .int 0, .int 0, .ref m29, .ref m30, .ref m31, .ref m32, .int 0, .ref m34, .ref m35, .ref m36, .ref m37, .int 0, .int 0, .ref m40, .ref m41, .ref m42, .ref m43, .ref m44, .ref m45, .ref m46, .ref m47, .ref m48, .ref m49, .ref m50, .ref m51, .ref m52]))]) [0] (by decide) rfl
  have hKc := hK.sub (tys' := []) [] rfl
  have hFc := va_free (wc := [(y0, .inr (10, [.int 1, .ref m1, .int 0, .int 0, .int 0, .int (-1), .int 0, .int 0, .ref m8, .int 0, .int 0, .ref m11, .ref m12, .ref m13, .ref m14, .ref m15, .ref m16, .ref m17, .ref m18, .ref m19, .ref m20, .ref m21, .int 0, .int 0, .int 0, .ref m25, .ref m26, .int 0, .int 0, .ref m29, .ref m30, .ref m31, .ref m32, .int 0, .ref m34, .ref m35, .ref m36, .ref m37, .int 0, .int 0, .ref m40, .ref m41, .ref m42, .ref m43, .ref m44, .ref m45, .ref m46, .ref m47, .ref m48, .ref m49, .ref m50, .ref m51, .ref m52]))]) hD hS hA [0] rfl
  refine va_calli (va_runV (As := []) (rest := []) ⟨hx, hb, hml, hown, hts⟩ (m_thrown l dC dI H.size (y0) (1) (m1) (0) (0) (0) ((-1)) (0) (0) (m8) (0) (0) (m11) (m12) (m13) (m14) (m15) (m16) (m17) (m18) (m19) (m20) (m21) (0) (0) (0) (m25) (m26) (0) (0) (m29) (m30) (m31) (m32) (0) (m34) (m35) (m36) (m37) (0) (0) (m40) (m41) (m42) (m43) (m44) (m45) (m46) (m47) (m48) (m49) (m50) (m51) (m52)) (cwV 0 hts (gV_G k1327 k1328 k1329 k13 k1330) rfl rfl rfl (by decide +kernel) ⟨Nat.le_of_ble_eq_true rfl, Nat.le_of_ble_eq_true rfl⟩) ⟨fun a U g mk q => by obtain ⟨q0, q1, qP, qK, qD⟩ := q; exact ⟨q0, q1, qP, va_K.moved (u := U) (U := U.calling g mk a) (Vm.Alike.refl U.vm) qK, qD⟩, va_recv hKc hPc (ci := 10) (q0 := 0) rfl rfl, fun U hU hW => ⟨rfl, by rw [hU], by rw [hU]; exact hPc, va_K.moved hW.alike hKc, hDc.weaken (fun _ _ _ _ => trivial)⟩⟩ rfl rfl hl.1 rfl (lv_room (Nat.le_of_ble_eq_true rfl)) dL_law_1190 ⟨Nat.le_of_ble_eq_true rfl, Nat.le_of_ble_eq_true rfl⟩) hS (fun q _ h => hFc q h) hFc (fun r103 u t H1 locs ht hvm hw hB hz1 hk1 hS => ?_)
  obtain ⟨hP1, hK1, hD1⟩ := hB
  rw [ht] at hP1
  have hK1 := va_K.moved hvm.symm hK1
  try dsimp only at hw
  obtain ⟨hP, hD⟩ := va_join (wr := []) (w1 := []) hP hD [0] [] rfl rfl (by decide) (by decide) hk1 hFc hP1 hD1
  have hK := hK.app hK1
  generalize H1 = H at hP hS ⊢
  have hP : va_P (dC, dI) vwCl [] H := hP
  have hD : va_D A [] := hD
  have hK : va_K (dC, dI) vwCl [(d53, .int), (crf, .int), (co, .long)] s := hK
  refine W.widen (k := 6561) (n := 850836) (by omega) (by omega) ?_
  obtain rfl : r103 = 1 := hw
  refine lv_iload hx hb dL_law_1193 (lv_at hl 1 rfl) ?_
  refine lv_icmp_eq (tgt := 1200) hx hb dL_law_1195 (by decide) (fun _ => ?_) (fun c9 => absurd (by decide +kernel) c9)
  refine lv_iload hx hb dL_law_1200 (lv_at hl 1 rfl) ?_
  refine lv_if_ne (tgt := 1217) hx hb dL_law_1202 (by decide) (fun _ => ?_) (fun c9 => absurd c9 (by decide +kernel))
  refine lv_goto (tgt := 2301) hx hb dL_law_1217 (by decide) ?_
  refine W.widen (k := 6567) (n := 850872) (by omega) (by omega) ?_
  exact hend H locs ls hS (lv_sub hl [2, 6] rfl)
set_option maxHeartbeats 4000000 in
set_option maxRecDepth 100000 in
theorem lc_value {p : Program} {l : Launch} {e : Env} {s : State} {m : MethodId} {below : List Frame} {meth : Method} {c : Code} {dC : Nat → ClassId} {dI : Nat → Nat → Nat} {A : Nat → Prop} {b : Nat} {xs : Nat → Int32} (C0 : lx_C p l s m c A b xs) {x0 w1 w6 w8 w15 w22 w26 w31 w35 w40 w48 w50 w52 y0 m1 m8 m11 m12 m13 m14 m15 m16 m17 m18 m19 m20 m21 m25 m26 m29 m30 m31 m32 m34 m35 m36 m37 m40 m41 m42 m43 m44 m45 m46 m47 m48 m49 m50 m51 m52 o0 : Nat} {d53 crf co : ClassId}  {v1 : Int32} {v2 : Int32} {v3 : Int32} (hs1 : xs (1 : Int32).toNatClampNeg = v1) (hs2 : xs (2 : Int32).toNatClampNeg = v2) (hs3 : xs (3 : Int32).toNatClampNeg = v3)
    (hend : ∀ (H : Heap) (locs : List Loc) (ls : Array Slot), va_S A s.heap H locs → lv_has ls 7 [(4, .int 0), (0, .ref b)] → W p l e room_1 s m #[Value.ref b] below meth c H locs 6567 850872 (lw_Z below #[Value.ref b] s) (F0 m 2301 ls []))
    {H : Heap} {locs : List Loc} {ls : Array Slot} (hP : va_P (dC, dI) vwCl [(x0, .inr (9, [.ref w1, .ref w6, .int 0, .ref w8, .ref w15, .int 0, .int 0, .ref w22, .ref w26, .ref w31, .ref w35, .ref w40, .ref w48, .ref w50, .ref w52])), (w52, .inl (d53, 3, .inl (fun _ => 0))), (y0, .inr (10, [.int 0, .ref m1, .int 0, .int 0, .int 0, .int (-1), .int 0, .int 0, .ref m8, .int 0, .int 0, .ref m11, .ref m12, .ref m13, .ref m14, .ref m15, .ref m16, .ref m17, .ref m18, .ref m19, .ref m20, .ref m21, .int 0, .int 0, .int 0, .ref m25, .ref m26, .int 0, .int 0, .ref m29, .ref m30, .ref m31, .ref m32, .int 0, .ref m34, .ref m35, .ref m36, .ref m37, .int 0, .int 0, .ref m40, .ref m41, .ref m42, .ref m43, .ref m44, .ref m45, .ref m46, .ref m47, .ref m48, .ref m49, .ref m50, .ref m51, .ref m52])), (m1, .inl (crf, 3, .inl (fun _ => 0))), (o0, .inl (co, 1, .inr (.inl (fun _ => 0))))] H) (hD : va_D A [(x0, .inr (9, [.ref w1, .ref w6, .int 0, .ref w8, .ref w15, .int 0, .int 0, .ref w22, .ref w26, .ref w31, .ref w35, .ref w40, .ref w48, .ref w50, .ref w52])), (w52, .inl (d53, 3, .inl (fun _ => 0))), (y0, .inr (10, [.int 0, .ref m1, .int 0, .int 0, .int 0, .int (-1), .int 0, .int 0, .ref m8, .int 0, .int 0, .ref m11, .ref m12, .ref m13, .ref m14, .ref m15, .ref m16, .ref m17, .ref m18, .ref m19, .ref m20, .ref m21, .int 0, .int 0, .int 0, .ref m25, .ref m26, .int 0, .int 0, .ref m29, .ref m30, .ref m31, .ref m32, .int 0, .ref m34, .ref m35, .ref m36, .ref m37, .int 0, .int 0, .ref m40, .ref m41, .ref m42, .ref m43, .ref m44, .ref m45, .ref m46, .ref m47, .ref m48, .ref m49, .ref m50, .ref m51, .ref m52])), (m1, .inl (crf, 3, .inl (fun _ => 0))), (o0, .inl (co, 1, .inr (.inl (fun _ => 0))))]) (hK : va_K (dC, dI) vwCl [(d53, .int), (crf, .int), (co, .long)] s) (hS : va_S A s.heap H locs) (hl : lv_has ls 7 [(4, .int 0), (3, .ref o0), (2, .ref y0), (1, .ref x0), (0, .ref b)]) : W p l e room_1 s m #[Value.ref b] below meth c H locs 6559 850824 (lw_Z below #[Value.ref b] s) (F0 m 1220 ls []) := by
  obtain ⟨hfl, hx, hb, hml, hown, hts, hX, hbl, hbA, hA, hEx, hNc⟩ := C0
  refine lv_aload_n hx hb dL_law_1220 rfl (lv_at hl 3 rfl) ?_
  refine lv_aload_n hx hb dL_law_1221 rfl (lv_at hl 4 rfl) ?_
  refine lv_iload hx hb dL_law_1222 (lv_at hl 0 rfl) ?_
  refine lv_iconst (v := 1) hx hb dL_law_1224 (by decide) ?_
  refine lv_iadd hx hb dL_law_1225 ?_
  refine lv_topi (fun x9 ex9 => ?_)
  obtain rfl : x9 = 1 := ex9.trans (by decide +kernel)
  refine va_sld hx hb hX hbl hbA hS (by unfold vp_in; decide +kernel) dL_law_1226 ?_
  refine lv_topi (fun x9 ex9 => ?_)
  obtain rfl : v1 = x9 := (ex9.trans hs1).symm
  refine lv_aload_n hx hb dL_law_1227 rfl (lv_at hl 4 rfl) ?_
  refine lv_iload hx hb dL_law_1228 (lv_at hl 0 rfl) ?_
  refine lv_iconst (v := 2) hx hb dL_law_1230 (by decide) ?_
  refine lv_iadd hx hb dL_law_1231 ?_
  refine lv_topi (fun x9 ex9 => ?_)
  obtain rfl : x9 = 2 := ex9.trans (by decide +kernel)
  refine va_sld hx hb hX hbl hbA hS (by unfold vp_in; decide +kernel) dL_law_1232 ?_
  refine lv_topi (fun x9 ex9 => ?_)
  obtain rfl : v2 = x9 := (ex9.trans hs2).symm
  refine lv_aload_n hx hb dL_law_1233 rfl (lv_at hl 4 rfl) ?_
  refine lv_iload hx hb dL_law_1234 (lv_at hl 0 rfl) ?_
  refine lv_iconst (v := 3) hx hb dL_law_1236 (by decide) ?_
  refine lv_iadd hx hb dL_law_1237 ?_
  refine lv_topi (fun x9 ex9 => ?_)
  obtain rfl : x9 = 3 := ex9.trans (by decide +kernel)
  refine va_sld hx hb hX hbl hbA hS (by unfold vp_in; decide +kernel) dL_law_1238 ?_
  refine lv_topi (fun x9 ex9 => ?_)
  obtain rfl : v3 = x9 := (ex9.trans hs3).symm
  refine lv_aload_n hx hb dL_law_1239 rfl (lv_at hl 1 rfl) ?_
  have hPc := hP.sub (ws' := [(x0, .inr (9, [.ref w1, .ref w6, .int 0, .ref w8, .ref w15, .int 0, .int 0, .ref w22, .ref w26, .ref w31, .ref w35, .ref w40, .ref w48, .ref w50, .ref w52])), (w52, .inl (d53, 3, .inl (fun _ => 0))), (o0, .inl (co, 1, .inr (.inl (fun _ => 0))))]) [0, 1, 4] rfl
  have hDc := hD.sub (ws' := [(x0, .inr (9, [.ref w1, .ref w6, .int 0, .ref w8, .ref w15, .int 0, .int 0, .ref w22, .ref w26, .ref w31, .ref w35, .ref w40, .ref w48, .ref w50, .ref w52])), (w52, .inl (d53, 3, .inl (fun _ => 0))), (o0, .inl (co, 1, .inr (.inl (fun _ => 0))))]) [0, 1, 4] (by decide) rfl
  have hKc := hK.sub (tys' := [(d53, .int), (co, .long)]) [0, 2] rfl
  have hFc := va_free (wc := [(x0, .inr (9, [.ref w1, .ref w6, .int 0, .ref w8, .ref w15, .int 0, .int 0, .ref w22, .ref w26, .ref w31, .ref w35, .ref w40, .ref w48, .ref w50, .ref w52])), (w52, .inl (d53, 3, .inl (fun _ => 0))), (o0, .inl (co, 1, .inr (.inl (fun _ => 0))))]) hD hS hA [0, 1, 4] rfl
  refine va_calli (vx_runSW (hh := [(0, 12, 15, 20)]) (As := [.ref x0, .int v1, .int v2, .int v3, .ref o0]) (rest := []) ⟨hx, hb, hml, hown, hts⟩ (w_value l hfl dC dI H.size (x0) (w1) (w6) (w8) (w15) (w22) (w26) (w31) (w35) (w40) (w48) (w50) (w52) (d53) (o0) (co) (v1) (v2) (v3)) (vx_cwSW 5 hts (gW_G k987 k988 k0 k989) rfl rfl rfl (by decide +kernel) ⟨Nat.le_of_ble_eq_true rfl, Nat.le_of_ble_eq_true rfl⟩) ⟨fun a U g mk q => by obtain ⟨q0, q1, qP, qK, qD, qE⟩ := q; exact ⟨q0, q1, qP, va_K.moved (u := U) (U := U.calling g mk a) (Vm.Alike.refl U.vm) qK, qD, xX_call qE⟩, fun U hU hW => ⟨rfl, by rw [hU], by rw [hU]; exact hPc, va_K.moved hW.alike hKc, hDc.weaken (fun _ _ _ _ => trivial), xX_at hEx hS (fun q h => hFc q h) hU hW⟩⟩ rfl rfl hl.1 rfl (lv_room (Nat.le_of_ble_eq_true rfl)) dL_law_1240 ⟨Nat.le_of_ble_eq_true rfl, Nat.le_of_ble_eq_true rfl⟩) hS (fun q _ h => hFc q h) hFc (fun r101 u t H1 locs ht hvm hw hB hz1 hk1 hS => ?_)
  obtain ⟨hP1, hK1, hD1⟩ := hB
  rw [ht] at hP1
  have hK1 := va_K.moved hvm.symm hK1
  try dsimp only at hw
  obtain ⟨hP, hD⟩ := va_join (wr := [(y0, .inr (10, [.int 0, .ref m1, .int 0, .int 0, .int 0, .int (-1), .int 0, .int 0, .ref m8, .int 0, .int 0, .ref m11, .ref m12, .ref m13, .ref m14, .ref m15, .ref m16, .ref m17, .ref m18, .ref m19, .ref m20, .ref m21, .int 0, .int 0, .int 0, .ref m25, .ref m26, .int 0, .int 0, .ref m29, .ref m30, .ref m31, .ref m32, .int 0, .ref m34, .ref m35, .ref m36, .ref m37, .int 0, .int 0, .ref m40, .ref m41, .ref m42, .ref m43, .ref m44, .ref m45, .ref m46, .ref m47, .ref m48, .ref m49, .ref m50, .ref m51, .ref m52])), (m1, .inl (crf, 3, .inl (fun _ => 0)))]) (w1 := []) hP hD [0, 1, 4] [2, 3] rfl rfl (by decide) (by decide) hk1 hFc hP1 hD1
  have hK := hK.app hK1
  generalize H1 = H at hP hS ⊢
  have hP : va_P (dC, dI) vwCl [(y0, .inr (10, [.int 0, .ref m1, .int 0, .int 0, .int 0, .int (-1), .int 0, .int 0, .ref m8, .int 0, .int 0, .ref m11, .ref m12, .ref m13, .ref m14, .ref m15, .ref m16, .ref m17, .ref m18, .ref m19, .ref m20, .ref m21, .int 0, .int 0, .int 0, .ref m25, .ref m26, .int 0, .int 0, .ref m29, .ref m30, .ref m31, .ref m32, .int 0, .ref m34, .ref m35, .ref m36, .ref m37, .int 0, .int 0, .ref m40, .ref m41, .ref m42, .ref m43, .ref m44, .ref m45, .ref m46, .ref m47, .ref m48, .ref m49, .ref m50, .ref m51, .ref m52])), (m1, .inl (crf, 3, .inl (fun _ => 0)))] H := hP
  have hD : va_D A [(y0, .inr (10, [.int 0, .ref m1, .int 0, .int 0, .int 0, .int (-1), .int 0, .int 0, .ref m8, .int 0, .int 0, .ref m11, .ref m12, .ref m13, .ref m14, .ref m15, .ref m16, .ref m17, .ref m18, .ref m19, .ref m20, .ref m21, .int 0, .int 0, .int 0, .ref m25, .ref m26, .int 0, .int 0, .ref m29, .ref m30, .ref m31, .ref m32, .int 0, .ref m34, .ref m35, .ref m36, .ref m37, .int 0, .int 0, .ref m40, .ref m41, .ref m42, .ref m43, .ref m44, .ref m45, .ref m46, .ref m47, .ref m48, .ref m49, .ref m50, .ref m51, .ref m52])), (m1, .inl (crf, 3, .inl (fun _ => 0)))] := hD
  have hK : va_K (dC, dI) vwCl [(d53, .int), (crf, .int), (co, .long)] s := hK
  refine W.widen (k := 6561) (n := 850836) (by omega) (by omega) ?_
  obtain rfl : r101 = 1 := hw
  refine lv_istore (lv' := [(5, .int 1), (4, .int 0), (3, .ref o0), (2, .ref y0), (1, .ref x0), (0, .ref b)]) hx hb dL_law_1243 hl (by decide) rfl (fun ls hl => ?_)
  refine lv_aload_n hx hb dL_law_1245 rfl (lv_at hl 3 rfl) ?_
  refine lv_aload_n hx hb dL_law_1246 rfl (lv_at hl 5 rfl) ?_
  refine lv_iload hx hb dL_law_1247 (lv_at hl 1 rfl) ?_
  refine lv_iconst (v := 1) hx hb dL_law_1249 (by decide) ?_
  refine lv_iadd hx hb dL_law_1250 ?_
  refine lv_topi (fun x9 ex9 => ?_)
  obtain rfl : x9 = 1 := ex9.trans (by decide +kernel)
  refine va_sld hx hb hX hbl hbA hS (by unfold vp_in; decide +kernel) dL_law_1251 ?_
  refine lv_topi (fun x9 ex9 => ?_)
  obtain rfl : v1 = x9 := (ex9.trans hs1).symm
  refine lv_aload_n hx hb dL_law_1252 rfl (lv_at hl 5 rfl) ?_
  refine lv_iload hx hb dL_law_1253 (lv_at hl 1 rfl) ?_
  refine lv_iconst (v := 2) hx hb dL_law_1255 (by decide) ?_
  refine lv_iadd hx hb dL_law_1256 ?_
  refine lv_topi (fun x9 ex9 => ?_)
  obtain rfl : x9 = 2 := ex9.trans (by decide +kernel)
  refine va_sld hx hb hX hbl hbA hS (by unfold vp_in; decide +kernel) dL_law_1257 ?_
  refine lv_topi (fun x9 ex9 => ?_)
  obtain rfl : v2 = x9 := (ex9.trans hs2).symm
  refine lv_aload_n hx hb dL_law_1258 rfl (lv_at hl 5 rfl) ?_
  refine lv_iload hx hb dL_law_1259 (lv_at hl 1 rfl) ?_
  refine lv_iconst (v := 3) hx hb dL_law_1261 (by decide) ?_
  refine lv_iadd hx hb dL_law_1262 ?_
  refine lv_topi (fun x9 ex9 => ?_)
  obtain rfl : x9 = 3 := ex9.trans (by decide +kernel)
  refine va_sld hx hb hX hbl hbA hS (by unfold vp_in; decide +kernel) dL_law_1263 ?_
  refine lv_topi (fun x9 ex9 => ?_)
  obtain rfl : v3 = x9 := (ex9.trans hs3).symm
  have hPc := hP.sub (ws' := [(y0, .inr (10, [.int 0, .ref m1, .int 0, .int 0, .int 0, .int (-1), .int 0, .int 0, .ref m8, .int 0, .int 0, .ref m11, .ref m12, .ref m13, .ref m14, .ref m15, .ref m16, .ref m17, .ref m18, .ref m19, .ref m20, .ref m21, .int 0, .int 0, .int 0, .ref m25, .ref m26, .int 0, .int 0, .ref m29, .ref m30, .ref m31, .ref m32, .int 0, .ref m34, .ref m35, .ref m36, .ref m37, .int 0, .int 0, .ref m40, .ref m41, .ref m42, .ref m43, .ref m44, .ref m45, .ref m46, .ref m47, .ref m48, .ref m49, .ref m50, .ref m51, .ref m52])), (m1, .inl (crf, 3, .inl (fun _ => 0)))]) [0, 1] rfl
  have hDc := hD.sub (ws' := [(y0, .inr (10, [.int 0, .ref m1, .int 0, .int 0, .int 0, .int (-1), .int 0, .int 0, .ref m8, .int 0, .int 0, .ref m11, .ref m12, .ref m13, .ref m14, .ref m15, .ref m16, .ref m17, .ref m18, .ref m19, .ref m20, .ref m21, .int 0, .int 0, .int 0, .ref m25, .ref m26, .int 0, .int 0, .ref m29, .ref m30, .ref m31, .ref m32, .int 0, .ref m34, .ref m35, .ref m36, .ref m37, .int 0, .int 0, .ref m40, .ref m41, .ref m42, .ref m43, .ref m44, .ref m45, .ref m46, .ref m47, .ref m48, .ref m49, .ref m50, .ref m51, .ref m52])), (m1, .inl (crf, 3, .inl (fun _ => 0)))]) [0, 1] (by decide) rfl
  have hKc := hK.sub (tys' := [(crf, .int)]) [1] rfl
  have hFc := va_free (wc := [(y0, .inr (10, [.int 0, .ref m1, .int 0, .int 0, .int 0, .int (-1), .int 0, .int 0, .ref m8, .int 0, .int 0, .ref m11, .ref m12, .ref m13, .ref m14, .ref m15, .ref m16, .ref m17, .ref m18, .ref m19, .ref m20, .ref m21, .int 0, .int 0, .int 0, .ref m25, .ref m26, .int 0, .int 0, .ref m29, .ref m30, .ref m31, .ref m32, .int 0, .ref m34, .ref m35, .ref m36, .ref m37, .int 0, .int 0, .ref m40, .ref m41, .ref m42, .ref m43, .ref m44, .ref m45, .ref m46, .ref m47, .ref m48, .ref m49, .ref m50, .ref m51, .ref m52])), (m1, .inl (crf, 3, .inl (fun _ => 0)))]) hD hS hA [0, 1] rfl
  refine va_calli (va_runV (As := [.int v1, .int v2, .int v3]) (rest := []) ⟨hx, hb, hml, hown, hts⟩ (m_value l dC dI H.size (y0) (m1) (m8) (m11) (m12) (m13) (m14) (m15) (m16) (m17) (m18) (m19) (m20) (m21) (m25) (m26) (m29) (m30) (m31) (m32) (m34) (m35) (m36) (m37) (m40) (m41) (m42) (m43) (m44) (m45) (m46) (m47) (m48) (m49) (m50) (m51) (m52) (crf) (v1) (v2) (v3)) (cwV 3 hts (gV_G k1675 k1676 k1677 k13 k1678) rfl rfl rfl (by decide +kernel) ⟨Nat.le_of_ble_eq_true rfl, Nat.le_of_ble_eq_true rfl⟩) ⟨fun a U g mk q => by obtain ⟨q0, q1, qP, qK, qD⟩ := q; exact ⟨q0, q1, qP, va_K.moved (u := U) (U := U.calling g mk a) (Vm.Alike.refl U.vm) qK, qD⟩, va_recv hKc hPc (ci := 10) (q0 := 0) rfl rfl, fun U hU hW => ⟨rfl, by rw [hU], by rw [hU]; exact hPc, va_K.moved hW.alike hKc, hDc.weaken (fun _ _ _ _ => trivial)⟩⟩ rfl rfl hl.1 rfl (lv_room (Nat.le_of_ble_eq_true rfl)) dL_law_1264 ⟨Nat.le_of_ble_eq_true rfl, Nat.le_of_ble_eq_true rfl⟩) hS (fun q _ h => hFc q h) hFc (fun r102 u t H1 locs ht hvm hw hB hz1 hk1 hS => ?_)
  obtain ⟨hP1, hK1, hD1⟩ := hB
  rw [ht] at hP1
  have hK1 := va_K.moved hvm.symm hK1
  try dsimp only at hw
  obtain ⟨hP, hD⟩ := va_join (wr := []) (w1 := [(y0, .inr (10, [.int 1, .ref m1, .int 0, .int 0, .int 0, .int (-1), .int 0, .int 0, .ref m8, .int 0, .int 0, .ref m11, .ref m12, .ref m13, .ref m14, .ref m15, .ref m16, .ref m17, .ref m18, .ref m19, .ref m20, .ref m21, .int 0, .int 0, .int 0, .ref m25, .ref m26, .int 0, .int 0, .ref m29, .ref m30, .ref m31, .ref m32, .int 0, .ref m34, .ref m35, .ref m36, .ref m37, .int 0, .int 0, .ref m40, .ref m41, .ref m42, .ref m43, .ref m44, .ref m45, .ref m46, .ref m47, .ref m48, .ref m49, .ref m50, .ref m51, .ref m52]))]) hP hD [0, 1] [] rfl rfl (by decide) (by decide) hk1 hFc hP1 hD1
  have hK := hK.app hK1
  generalize H1 = H at hP hS ⊢
  have hP : va_P (dC, dI) vwCl [(y0, .inr (10, [.int 1, .ref m1, .int 0, .int 0, .int 0, .int (-1), .int 0, .int 0, .ref m8, .int 0, .int 0, .ref m11, .ref m12, .ref m13, .ref m14, .ref m15, .ref m16, .ref m17, .ref m18, .ref m19, .ref m20, .ref m21, .int 0, .int 0, .int 0, .ref m25, .ref m26, .int 0, .int 0, .ref m29, .ref m30, .ref m31, .ref m32, .int 0, .ref m34, .ref m35, .ref m36, .ref m37, .int 0, .int 0, .ref m40, .ref m41, .ref m42, .ref m43, .ref m44, .ref m45, .ref m46, .ref m47, .ref m48, .ref m49, .ref m50, .ref m51, .ref m52]))] H := hP
  have hD : va_D A [(y0, .inr (10, [.int 1, .ref m1, .int 0, .int 0, .int 0, .int (-1), .int 0, .int 0, .ref m8, .int 0, .int 0, .ref m11, .ref m12, .ref m13, .ref m14, .ref m15, .ref m16, .ref m17, .ref m18, .ref m19, .ref m20, .ref m21, .int 0, .int 0, .int 0, .ref m25, .ref m26, .int 0, .int 0, .ref m29, .ref m30, .ref m31, .ref m32, .int 0, .ref m34, .ref m35, .ref m36, .ref m37, .int 0, .int 0, .ref m40, .ref m41, .ref m42, .ref m43, .ref m44, .ref m45, .ref m46, .ref m47, .ref m48, .ref m49, .ref m50, .ref m51, .ref m52]))] := hD
  have hK : va_K (dC, dI) vwCl [(d53, .int), (crf, .int), (co, .long)] s := hK
  refine W.widen (k := 6561) (n := 850836) (by omega) (by omega) ?_
  obtain rfl : r102 = 0 := hw
  refine lv_istore (lv' := [(6, .int 0), (5, .int 1), (4, .int 0), (3, .ref o0), (2, .ref y0), (1, .ref x0), (0, .ref b)]) hx hb dL_law_1267 hl (by decide) rfl (fun ls hl => ?_)
  refine lv_aload_n hx hb dL_law_1269 rfl (lv_at hl 4 rfl) ?_
  have hPc := hP.sub (ws' := [(y0, .inr (10, [.int 1, .ref m1, .int 0, .int 0, .int 0, .int (-1), .int 0, .int 0, .ref m8, .int 0, .int 0, .ref m11, .ref m12, .ref m13, .ref m14, .ref m15, .ref m16, .ref m17, .ref m18, .ref m19, .ref m20, .ref m21, .int 0, .int 0, .int 0, .ref m25, .ref m26, .int 0, .int 0, .ref m29, .ref m30, .ref m31, .ref m32, .int 0, .ref m34, .ref m35, .ref m36, .ref m37, .int 0, .int 0, .ref m40, .ref m41, .ref m42, .ref m43, .ref m44, .ref m45, .ref m46, .ref m47, .ref m48, .ref m49, .ref m50, .ref m51, .ref m52]))]) [0] rfl
  have hDc := hD.sub (ws' := [(y0, .inr (10, [.int 1, .ref m1, .int 0, .int 0, .int 0, .int (-1), .int 0, .int 0, .ref m8, .int 0, .int 0, .ref m11, .ref m12, .ref m13, .ref m14, .ref m15, .ref m16, .ref m17, .ref m18, .ref m19, .ref m20, .ref m21, .int 0, .int 0, .int 0, .ref m25, .ref m26, .int 0, .int 0, .ref m29, .ref m30, .ref m31, .ref m32, .int 0, .ref m34, .ref m35, .ref m36, .ref m37, .int 0, .int 0, .ref m40, .ref m41, .ref m42, .ref m43, .ref m44, .ref m45, .ref m46, .ref m47, .ref m48, .ref m49, .ref m50, .ref m51, .ref m52]))]) [0] (by decide) rfl
  have hKc := hK.sub (tys' := []) [] rfl
  have hFc := va_free (wc := [(y0, .inr (10, [.int 1, .ref m1, .int 0, .int 0, .int 0, .int (-1), .int 0, .int 0, .ref m8, .int 0, .int 0, .ref m11, .ref m12, .ref m13, .ref m14, .ref m15, .ref m16, .ref m17, .ref m18, .ref m19, .ref m20, .ref m21, .int 0, .int 0, .int 0, .ref m25, .ref m26, .int 0, .int 0, .ref m29, .ref m30, .ref m31, .ref m32, .int 0, .ref m34, .ref m35, .ref m36, .ref m37, .int 0, .int 0, .ref m40, .ref m41, .ref m42, .ref m43, .ref m44, .ref m45, .ref m46, .ref m47, .ref m48, .ref m49, .ref m50, .ref m51, .ref m52]))]) hD hS hA [0] rfl
  refine va_calli (va_runV (As := []) (rest := []) ⟨hx, hb, hml, hown, hts⟩ (m_thrown l dC dI H.size (y0) (1) (m1) (0) (0) (0) ((-1)) (0) (0) (m8) (0) (0) (m11) (m12) (m13) (m14) (m15) (m16) (m17) (m18) (m19) (m20) (m21) (0) (0) (0) (m25) (m26) (0) (0) (m29) (m30) (m31) (m32) (0) (m34) (m35) (m36) (m37) (0) (0) (m40) (m41) (m42) (m43) (m44) (m45) (m46) (m47) (m48) (m49) (m50) (m51) (m52)) (cwV 0 hts (gV_G k1327 k1328 k1329 k13 k1330) rfl rfl rfl (by decide +kernel) ⟨Nat.le_of_ble_eq_true rfl, Nat.le_of_ble_eq_true rfl⟩) ⟨fun a U g mk q => by obtain ⟨q0, q1, qP, qK, qD⟩ := q; exact ⟨q0, q1, qP, va_K.moved (u := U) (U := U.calling g mk a) (Vm.Alike.refl U.vm) qK, qD⟩, va_recv hKc hPc (ci := 10) (q0 := 0) rfl rfl, fun U hU hW => ⟨rfl, by rw [hU], by rw [hU]; exact hPc, va_K.moved hW.alike hKc, hDc.weaken (fun _ _ _ _ => trivial)⟩⟩ rfl rfl hl.1 rfl (lv_room (Nat.le_of_ble_eq_true rfl)) dL_law_1270 ⟨Nat.le_of_ble_eq_true rfl, Nat.le_of_ble_eq_true rfl⟩) hS (fun q _ h => hFc q h) hFc (fun r103 u t H1 locs ht hvm hw hB hz1 hk1 hS => ?_)
  obtain ⟨hP1, hK1, hD1⟩ := hB
  rw [ht] at hP1
  have hK1 := va_K.moved hvm.symm hK1
  try dsimp only at hw
  obtain ⟨hP, hD⟩ := va_join (wr := []) (w1 := []) hP hD [0] [] rfl rfl (by decide) (by decide) hk1 hFc hP1 hD1
  have hK := hK.app hK1
  generalize H1 = H at hP hS ⊢
  have hP : va_P (dC, dI) vwCl [] H := hP
  have hD : va_D A [] := hD
  have hK : va_K (dC, dI) vwCl [(d53, .int), (crf, .int), (co, .long)] s := hK
  refine W.widen (k := 6561) (n := 850836) (by omega) (by omega) ?_
  obtain rfl : r103 = 1 := hw
  refine lv_iload hx hb dL_law_1273 (lv_at hl 1 rfl) ?_
  refine lv_icmp_eq (tgt := 1280) hx hb dL_law_1275 (by decide) (fun _ => ?_) (fun c9 => absurd (by decide +kernel) c9)
  refine lv_iload hx hb dL_law_1280 (lv_at hl 1 rfl) ?_
  refine lv_if_ne (tgt := 1297) hx hb dL_law_1282 (by decide) (fun _ => ?_) (fun c9 => absurd c9 (by decide +kernel))
  refine lv_goto (tgt := 2301) hx hb dL_law_1297 (by decide) ?_
  refine W.widen (k := 6567) (n := 850872) (by omega) (by omega) ?_
  exact hend H locs ls hS (lv_sub hl [2, 6] rfl)
set_option maxHeartbeats 4000000 in
set_option maxRecDepth 100000 in
theorem lc_taker {p : Program} {l : Launch} {e : Env} {s : State} {m : MethodId} {below : List Frame} {meth : Method} {c : Code} {dC : Nat → ClassId} {dI : Nat → Nat → Nat} {A : Nat → Prop} {b : Nat} {xs : Nat → Int32} (C0 : lx_C p l s m c A b xs) {x0 w1 w6 w8 w15 w22 w26 w31 w35 w40 w48 w50 w52 y0 m1 m8 m11 m12 m13 m14 m15 m16 m17 m18 m19 m20 m21 m25 m26 m29 m30 m31 m32 m34 m35 m36 m37 m40 m41 m42 m43 m44 m45 m46 m47 m48 m49 m50 m51 m52 o0 : Nat} {d53 crf co : ClassId}  {v1 : Int32} {v2 : Int32} (hs1 : xs (1 : Int32).toNatClampNeg = v1) (hs2 : xs (2 : Int32).toNatClampNeg = v2)
    (hend : ∀ (H : Heap) (locs : List Loc) (ls : Array Slot), va_S A s.heap H locs → lv_has ls 7 [(4, .int 0), (0, .ref b)] → W p l e room_1 s m #[Value.ref b] below meth c H locs 6567 850872 (lw_Z below #[Value.ref b] s) (F0 m 2301 ls []))
    {H : Heap} {locs : List Loc} {ls : Array Slot} (hP : va_P (dC, dI) vwCl [(x0, .inr (9, [.ref w1, .ref w6, .int 0, .ref w8, .ref w15, .int 0, .int 0, .ref w22, .ref w26, .ref w31, .ref w35, .ref w40, .ref w48, .ref w50, .ref w52])), (w52, .inl (d53, 3, .inl (fun _ => 0))), (y0, .inr (10, [.int 0, .ref m1, .int 0, .int 0, .int 0, .int (-1), .int 0, .int 0, .ref m8, .int 0, .int 0, .ref m11, .ref m12, .ref m13, .ref m14, .ref m15, .ref m16, .ref m17, .ref m18, .ref m19, .ref m20, .ref m21, .int 0, .int 0, .int 0, .ref m25, .ref m26, .int 0, .int 0, .ref m29, .ref m30, .ref m31, .ref m32, .int 0, .ref m34, .ref m35, .ref m36, .ref m37, .int 0, .int 0, .ref m40, .ref m41, .ref m42, .ref m43, .ref m44, .ref m45, .ref m46, .ref m47, .ref m48, .ref m49, .ref m50, .ref m51, .ref m52])), (m1, .inl (crf, 3, .inl (fun _ => 0))), (o0, .inl (co, 1, .inr (.inl (fun _ => 0))))] H) (hD : va_D A [(x0, .inr (9, [.ref w1, .ref w6, .int 0, .ref w8, .ref w15, .int 0, .int 0, .ref w22, .ref w26, .ref w31, .ref w35, .ref w40, .ref w48, .ref w50, .ref w52])), (w52, .inl (d53, 3, .inl (fun _ => 0))), (y0, .inr (10, [.int 0, .ref m1, .int 0, .int 0, .int 0, .int (-1), .int 0, .int 0, .ref m8, .int 0, .int 0, .ref m11, .ref m12, .ref m13, .ref m14, .ref m15, .ref m16, .ref m17, .ref m18, .ref m19, .ref m20, .ref m21, .int 0, .int 0, .int 0, .ref m25, .ref m26, .int 0, .int 0, .ref m29, .ref m30, .ref m31, .ref m32, .int 0, .ref m34, .ref m35, .ref m36, .ref m37, .int 0, .int 0, .ref m40, .ref m41, .ref m42, .ref m43, .ref m44, .ref m45, .ref m46, .ref m47, .ref m48, .ref m49, .ref m50, .ref m51, .ref m52])), (m1, .inl (crf, 3, .inl (fun _ => 0))), (o0, .inl (co, 1, .inr (.inl (fun _ => 0))))]) (hK : va_K (dC, dI) vwCl [(d53, .int), (crf, .int), (co, .long)] s) (hS : va_S A s.heap H locs) (hl : lv_has ls 7 [(4, .int 0), (3, .ref o0), (2, .ref y0), (1, .ref x0), (0, .ref b)]) : W p l e room_1 s m #[Value.ref b] below meth c H locs 6559 850824 (lw_Z below #[Value.ref b] s) (F0 m 1300 ls []) := by
  obtain ⟨hfl, hx, hb, hml, hown, hts, hX, hbl, hbA, hA, hEx, hNc⟩ := C0
  refine lv_aload_n hx hb dL_law_1300 rfl (lv_at hl 3 rfl) ?_
  refine lv_aload_n hx hb dL_law_1301 rfl (lv_at hl 4 rfl) ?_
  refine lv_iload hx hb dL_law_1302 (lv_at hl 0 rfl) ?_
  refine lv_iconst (v := 1) hx hb dL_law_1304 (by decide) ?_
  refine lv_iadd hx hb dL_law_1305 ?_
  refine lv_topi (fun x9 ex9 => ?_)
  obtain rfl : x9 = 1 := ex9.trans (by decide +kernel)
  refine va_sld hx hb hX hbl hbA hS (by unfold vp_in; decide +kernel) dL_law_1306 ?_
  refine lv_topi (fun x9 ex9 => ?_)
  obtain rfl : v1 = x9 := (ex9.trans hs1).symm
  refine lv_aload_n hx hb dL_law_1307 rfl (lv_at hl 4 rfl) ?_
  refine lv_iload hx hb dL_law_1308 (lv_at hl 0 rfl) ?_
  refine lv_iconst (v := 2) hx hb dL_law_1310 (by decide) ?_
  refine lv_iadd hx hb dL_law_1311 ?_
  refine lv_topi (fun x9 ex9 => ?_)
  obtain rfl : x9 = 2 := ex9.trans (by decide +kernel)
  refine va_sld hx hb hX hbl hbA hS (by unfold vp_in; decide +kernel) dL_law_1312 ?_
  refine lv_topi (fun x9 ex9 => ?_)
  obtain rfl : v2 = x9 := (ex9.trans hs2).symm
  refine lv_aload_n hx hb dL_law_1313 rfl (lv_at hl 1 rfl) ?_
  have hPc := hP.sub (ws' := [(x0, .inr (9, [.ref w1, .ref w6, .int 0, .ref w8, .ref w15, .int 0, .int 0, .ref w22, .ref w26, .ref w31, .ref w35, .ref w40, .ref w48, .ref w50, .ref w52])), (w52, .inl (d53, 3, .inl (fun _ => 0))), (o0, .inl (co, 1, .inr (.inl (fun _ => 0))))]) [0, 1, 4] rfl
  have hDc := hD.sub (ws' := [(x0, .inr (9, [.ref w1, .ref w6, .int 0, .ref w8, .ref w15, .int 0, .int 0, .ref w22, .ref w26, .ref w31, .ref w35, .ref w40, .ref w48, .ref w50, .ref w52])), (w52, .inl (d53, 3, .inl (fun _ => 0))), (o0, .inl (co, 1, .inr (.inl (fun _ => 0))))]) [0, 1, 4] (by decide) rfl
  have hKc := hK.sub (tys' := [(d53, .int), (co, .long)]) [0, 2] rfl
  have hFc := va_free (wc := [(x0, .inr (9, [.ref w1, .ref w6, .int 0, .ref w8, .ref w15, .int 0, .int 0, .ref w22, .ref w26, .ref w31, .ref w35, .ref w40, .ref w48, .ref w50, .ref w52])), (w52, .inl (d53, 3, .inl (fun _ => 0))), (o0, .inl (co, 1, .inr (.inl (fun _ => 0))))]) hD hS hA [0, 1, 4] rfl
  refine va_calli (vx_runSW (hh := [(0, 10, 13, 20)]) (As := [.ref x0, .int v1, .int v2, .ref o0]) (rest := []) ⟨hx, hb, hml, hown, hts⟩ (w_taker l hfl dC dI H.size (x0) (w1) (w6) (w8) (w15) (w22) (w26) (w31) (w35) (w40) (w48) (w50) (w52) (d53) (o0) (co) (v1) (v2)) (vx_cwSW 4 hts (gW_G k994 k995 k0 k996) rfl rfl rfl (by decide +kernel) ⟨Nat.le_of_ble_eq_true rfl, Nat.le_of_ble_eq_true rfl⟩) ⟨fun a U g mk q => by obtain ⟨q0, q1, qP, qK, qD, qE⟩ := q; exact ⟨q0, q1, qP, va_K.moved (u := U) (U := U.calling g mk a) (Vm.Alike.refl U.vm) qK, qD, xX_call qE⟩, fun U hU hW => ⟨rfl, by rw [hU], by rw [hU]; exact hPc, va_K.moved hW.alike hKc, hDc.weaken (fun _ _ _ _ => trivial), xX_at hEx hS (fun q h => hFc q h) hU hW⟩⟩ rfl rfl hl.1 rfl (lv_room (Nat.le_of_ble_eq_true rfl)) dL_law_1314 ⟨Nat.le_of_ble_eq_true rfl, Nat.le_of_ble_eq_true rfl⟩) hS (fun q _ h => hFc q h) hFc (fun r101 u t H1 locs ht hvm hw hB hz1 hk1 hS => ?_)
  obtain ⟨hP1, hK1, hD1⟩ := hB
  rw [ht] at hP1
  have hK1 := va_K.moved hvm.symm hK1
  try dsimp only at hw
  obtain ⟨hP, hD⟩ := va_join (wr := [(y0, .inr (10, [.int 0, .ref m1, .int 0, .int 0, .int 0, .int (-1), .int 0, .int 0, .ref m8, .int 0, .int 0, .ref m11, .ref m12, .ref m13, .ref m14, .ref m15, .ref m16, .ref m17, .ref m18, .ref m19, .ref m20, .ref m21, .int 0, .int 0, .int 0, .ref m25, .ref m26, .int 0, .int 0, .ref m29, .ref m30, .ref m31, .ref m32, .int 0, .ref m34, .ref m35, .ref m36, .ref m37, .int 0, .int 0, .ref m40, .ref m41, .ref m42, .ref m43, .ref m44, .ref m45, .ref m46, .ref m47, .ref m48, .ref m49, .ref m50, .ref m51, .ref m52])), (m1, .inl (crf, 3, .inl (fun _ => 0)))]) (w1 := []) hP hD [0, 1, 4] [2, 3] rfl rfl (by decide) (by decide) hk1 hFc hP1 hD1
  have hK := hK.app hK1
  generalize H1 = H at hP hS ⊢
  have hP : va_P (dC, dI) vwCl [(y0, .inr (10, [.int 0, .ref m1, .int 0, .int 0, .int 0, .int (-1), .int 0, .int 0, .ref m8, .int 0, .int 0, .ref m11, .ref m12, .ref m13, .ref m14, .ref m15, .ref m16, .ref m17, .ref m18, .ref m19, .ref m20, .ref m21, .int 0, .int 0, .int 0, .ref m25, .ref m26, .int 0, .int 0, .ref m29, .ref m30, .ref m31, .ref m32, .int 0, .ref m34, .ref m35, .ref m36, .ref m37, .int 0, .int 0, .ref m40, .ref m41, .ref m42, .ref m43, .ref m44, .ref m45, .ref m46, .ref m47, .ref m48, .ref m49, .ref m50, .ref m51, .ref m52])), (m1, .inl (crf, 3, .inl (fun _ => 0)))] H := hP
  have hD : va_D A [(y0, .inr (10, [.int 0, .ref m1, .int 0, .int 0, .int 0, .int (-1), .int 0, .int 0, .ref m8, .int 0, .int 0, .ref m11, .ref m12, .ref m13, .ref m14, .ref m15, .ref m16, .ref m17, .ref m18, .ref m19, .ref m20, .ref m21, .int 0, .int 0, .int 0, .ref m25, .ref m26, .int 0, .int 0, .ref m29, .ref m30, .ref m31, .ref m32, .int 0, .ref m34, .ref m35, .ref m36, .ref m37, .int 0, .int 0, .ref m40, .ref m41, .ref m42, .ref m43, .ref m44, .ref m45, .ref m46, .ref m47, .ref m48, .ref m49, .ref m50, .ref m51, .ref m52])), (m1, .inl (crf, 3, .inl (fun _ => 0)))] := hD
  have hK : va_K (dC, dI) vwCl [(d53, .int), (crf, .int), (co, .long)] s := hK
  refine W.widen (k := 6561) (n := 850836) (by omega) (by omega) ?_
  obtain rfl : r101 = 1 := hw
  refine lv_istore (lv' := [(5, .int 1), (4, .int 0), (3, .ref o0), (2, .ref y0), (1, .ref x0), (0, .ref b)]) hx hb dL_law_1317 hl (by decide) rfl (fun ls hl => ?_)
  refine lv_aload_n hx hb dL_law_1319 rfl (lv_at hl 3 rfl) ?_
  refine lv_aload_n hx hb dL_law_1320 rfl (lv_at hl 5 rfl) ?_
  refine lv_iload hx hb dL_law_1321 (lv_at hl 1 rfl) ?_
  refine lv_iconst (v := 1) hx hb dL_law_1323 (by decide) ?_
  refine lv_iadd hx hb dL_law_1324 ?_
  refine lv_topi (fun x9 ex9 => ?_)
  obtain rfl : x9 = 1 := ex9.trans (by decide +kernel)
  refine va_sld hx hb hX hbl hbA hS (by unfold vp_in; decide +kernel) dL_law_1325 ?_
  refine lv_topi (fun x9 ex9 => ?_)
  obtain rfl : v1 = x9 := (ex9.trans hs1).symm
  refine lv_aload_n hx hb dL_law_1326 rfl (lv_at hl 5 rfl) ?_
  refine lv_iload hx hb dL_law_1327 (lv_at hl 1 rfl) ?_
  refine lv_iconst (v := 2) hx hb dL_law_1329 (by decide) ?_
  refine lv_iadd hx hb dL_law_1330 ?_
  refine lv_topi (fun x9 ex9 => ?_)
  obtain rfl : x9 = 2 := ex9.trans (by decide +kernel)
  refine va_sld hx hb hX hbl hbA hS (by unfold vp_in; decide +kernel) dL_law_1331 ?_
  refine lv_topi (fun x9 ex9 => ?_)
  obtain rfl : v2 = x9 := (ex9.trans hs2).symm
  have hPc := hP.sub (ws' := [(y0, .inr (10, [.int 0, .ref m1, .int 0, .int 0, .int 0, .int (-1), .int 0, .int 0, .ref m8, .int 0, .int 0, .ref m11, .ref m12, .ref m13, .ref m14, .ref m15, .ref m16, .ref m17, .ref m18, .ref m19, .ref m20, .ref m21, .int 0, .int 0, .int 0, .ref m25, .ref m26, .int 0, .int 0, .ref m29, .ref m30, .ref m31, .ref m32, .int 0, .ref m34, .ref m35, .ref m36, .ref m37, .int 0, .int 0, .ref m40, .ref m41, .ref m42, .ref m43, .ref m44, .ref m45, .ref m46, .ref m47, .ref m48, .ref m49, .ref m50, .ref m51, .ref m52])), (m1, .inl (crf, 3, .inl (fun _ => 0)))]) [0, 1] rfl
  have hDc := hD.sub (ws' := [(y0, .inr (10, [.int 0, .ref m1, .int 0, .int 0, .int 0, .int (-1), .int 0, .int 0, .ref m8, .int 0, .int 0, .ref m11, .ref m12, .ref m13, .ref m14, .ref m15, .ref m16, .ref m17, .ref m18, .ref m19, .ref m20, .ref m21, .int 0, .int 0, .int 0, .ref m25, .ref m26, .int 0, .int 0, .ref m29, .ref m30, .ref m31, .ref m32, .int 0, .ref m34, .ref m35, .ref m36, .ref m37, .int 0, .int 0, .ref m40, .ref m41, .ref m42, .ref m43, .ref m44, .ref m45, .ref m46, .ref m47, .ref m48, .ref m49, .ref m50, .ref m51, .ref m52])), (m1, .inl (crf, 3, .inl (fun _ => 0)))]) [0, 1] (by decide) rfl
  have hKc := hK.sub (tys' := [(crf, .int)]) [1] rfl
  have hFc := va_free (wc := [(y0, .inr (10, [.int 0, .ref m1, .int 0, .int 0, .int 0, .int (-1), .int 0, .int 0, .ref m8, .int 0, .int 0, .ref m11, .ref m12, .ref m13, .ref m14, .ref m15, .ref m16, .ref m17, .ref m18, .ref m19, .ref m20, .ref m21, .int 0, .int 0, .int 0, .ref m25, .ref m26, .int 0, .int 0, .ref m29, .ref m30, .ref m31, .ref m32, .int 0, .ref m34, .ref m35, .ref m36, .ref m37, .int 0, .int 0, .ref m40, .ref m41, .ref m42, .ref m43, .ref m44, .ref m45, .ref m46, .ref m47, .ref m48, .ref m49, .ref m50, .ref m51, .ref m52])), (m1, .inl (crf, 3, .inl (fun _ => 0)))]) hD hS hA [0, 1] rfl
  refine va_calli (va_runV (As := [.int v1, .int v2]) (rest := []) ⟨hx, hb, hml, hown, hts⟩ (m_taker l dC dI H.size (y0) (m1) (m8) (m11) (m12) (m13) (m14) (m15) (m16) (m17) (m18) (m19) (m20) (m21) (m25) (m26) (m29) (m30) (m31) (m32) (m34) (m35) (m36) (m37) (m40) (m41) (m42) (m43) (m44) (m45) (m46) (m47) (m48) (m49) (m50) (m51) (m52) (crf) (v1) (v2)) (cwV 2 hts (gV_G k1679 k1680 k1681 k13 k1682) rfl rfl rfl (by decide +kernel) ⟨Nat.le_of_ble_eq_true rfl, Nat.le_of_ble_eq_true rfl⟩) ⟨fun a U g mk q => by obtain ⟨q0, q1, qP, qK, qD⟩ := q; exact ⟨q0, q1, qP, va_K.moved (u := U) (U := U.calling g mk a) (Vm.Alike.refl U.vm) qK, qD⟩, va_recv hKc hPc (ci := 10) (q0 := 0) rfl rfl, fun U hU hW => ⟨rfl, by rw [hU], by rw [hU]; exact hPc, va_K.moved hW.alike hKc, hDc.weaken (fun _ _ _ _ => trivial)⟩⟩ rfl rfl hl.1 rfl (lv_room (Nat.le_of_ble_eq_true rfl)) dL_law_1332 ⟨Nat.le_of_ble_eq_true rfl, Nat.le_of_ble_eq_true rfl⟩) hS (fun q _ h => hFc q h) hFc (fun r102 u t H1 locs ht hvm hw hB hz1 hk1 hS => ?_)
  obtain ⟨hP1, hK1, hD1⟩ := hB
  rw [ht] at hP1
  have hK1 := va_K.moved hvm.symm hK1
  try dsimp only at hw
  obtain ⟨hP, hD⟩ := va_join (wr := []) (w1 := [(y0, .inr (10, [.int 1, .ref m1, .int 0, .int 0, .int 0, .int (-1), .int 0, .int 0, .ref m8, .int 0, .int 0, .ref m11, .ref m12, .ref m13, .ref m14, .ref m15, .ref m16, .ref m17, .ref m18, .ref m19, .ref m20, .ref m21, .int 0, .int 0, .int 0, .ref m25, .ref m26, .int 0, .int 0, .ref m29, .ref m30, .ref m31, .ref m32, .int 0, .ref m34, .ref m35, .ref m36, .ref m37, .int 0, .int 0, .ref m40, .ref m41, .ref m42, .ref m43, .ref m44, .ref m45, .ref m46, .ref m47, .ref m48, .ref m49, .ref m50, .ref m51, .ref m52]))]) hP hD [0, 1] [] rfl rfl (by decide) (by decide) hk1 hFc hP1 hD1
  have hK := hK.app hK1
  generalize H1 = H at hP hS ⊢
  have hP : va_P (dC, dI) vwCl [(y0, .inr (10, [.int 1, .ref m1, .int 0, .int 0, .int 0, .int (-1), .int 0, .int 0, .ref m8, .int 0, .int 0, .ref m11, .ref m12, .ref m13, .ref m14, .ref m15, .ref m16, .ref m17, .ref m18, .ref m19, .ref m20, .ref m21, .int 0, .int 0, .int 0, .ref m25, .ref m26, .int 0, .int 0, .ref m29, .ref m30, .ref m31, .ref m32, .int 0, .ref m34, .ref m35, .ref m36, .ref m37, .int 0, .int 0, .ref m40, .ref m41, .ref m42, .ref m43, .ref m44, .ref m45, .ref m46, .ref m47, .ref m48, .ref m49, .ref m50, .ref m51, .ref m52]))] H := hP
  have hD : va_D A [(y0, .inr (10, [.int 1, .ref m1, .int 0, .int 0, .int 0, .int (-1), .int 0, .int 0, .ref m8, .int 0, .int 0, .ref m11, .ref m12, .ref m13, .ref m14, .ref m15, .ref m16, .ref m17, .ref m18, .ref m19, .ref m20, .ref m21, .int 0, .int 0, .int 0, .ref m25, .ref m26, .int 0, .int 0, .ref m29, .ref m30, .ref m31, .ref m32, .int 0, .ref m34, .ref m35, .ref m36, .ref m37, .int 0, .int 0, .ref m40, .ref m41, .ref m42, .ref m43, .ref m44, .ref m45, .ref m46, .ref m47, .ref m48, .ref m49, .ref m50, .ref m51, .ref m52]))] := hD
  have hK : va_K (dC, dI) vwCl [(d53, .int), (crf, .int), (co, .long)] s := hK
  refine W.widen (k := 6561) (n := 850836) (by omega) (by omega) ?_
  obtain rfl : r102 = 0 := hw
  refine lv_istore (lv' := [(6, .int 0), (5, .int 1), (4, .int 0), (3, .ref o0), (2, .ref y0), (1, .ref x0), (0, .ref b)]) hx hb dL_law_1335 hl (by decide) rfl (fun ls hl => ?_)
  refine lv_aload_n hx hb dL_law_1337 rfl (lv_at hl 4 rfl) ?_
  have hPc := hP.sub (ws' := [(y0, .inr (10, [.int 1, .ref m1, .int 0, .int 0, .int 0, .int (-1), .int 0, .int 0, .ref m8, .int 0, .int 0, .ref m11, .ref m12, .ref m13, .ref m14, .ref m15, .ref m16, .ref m17, .ref m18, .ref m19, .ref m20, .ref m21, .int 0, .int 0, .int 0, .ref m25, .ref m26, .int 0, .int 0, .ref m29, .ref m30, .ref m31, .ref m32, .int 0, .ref m34, .ref m35, .ref m36, .ref m37, .int 0, .int 0, .ref m40, .ref m41, .ref m42, .ref m43, .ref m44, .ref m45, .ref m46, .ref m47, .ref m48, .ref m49, .ref m50, .ref m51, .ref m52]))]) [0] rfl
  have hDc := hD.sub (ws' := [(y0, .inr (10, [.int 1, .ref m1, .int 0, .int 0, .int 0, .int (-1), .int 0, .int 0, .ref m8, .int 0, .int 0, .ref m11, .ref m12, .ref m13, .ref m14, .ref m15, .ref m16, .ref m17, .ref m18, .ref m19, .ref m20, .ref m21, .int 0, .int 0, .int 0, .ref m25, .ref m26, .int 0, .int 0, .ref m29, .ref m30, .ref m31, .ref m32, .int 0, .ref m34, .ref m35, .ref m36, .ref m37, .int 0, .int 0, .ref m40, .ref m41, .ref m42, .ref m43, .ref m44, .ref m45, .ref m46, .ref m47, .ref m48, .ref m49, .ref m50, .ref m51, .ref m52]))]) [0] (by decide) rfl
  have hKc := hK.sub (tys' := []) [] rfl
  have hFc := va_free (wc := [(y0, .inr (10, [.int 1, .ref m1, .int 0, .int 0, .int 0, .int (-1), .int 0, .int 0, .ref m8, .int 0, .int 0, .ref m11, .ref m12, .ref m13, .ref m14, .ref m15, .ref m16, .ref m17, .ref m18, .ref m19, .ref m20, .ref m21, .int 0, .int 0, .int 0, .ref m25, .ref m26, .int 0, .int 0, .ref m29, .ref m30, .ref m31, .ref m32, .int 0, .ref m34, .ref m35, .ref m36, .ref m37, .int 0, .int 0, .ref m40, .ref m41, .ref m42, .ref m43, .ref m44, .ref m45, .ref m46, .ref m47, .ref m48, .ref m49, .ref m50, .ref m51, .ref m52]))]) hD hS hA [0] rfl
  refine va_calli (va_runV (As := []) (rest := []) ⟨hx, hb, hml, hown, hts⟩ (m_thrown l dC dI H.size (y0) (1) (m1) (0) (0) (0) ((-1)) (0) (0) (m8) (0) (0) (m11) (m12) (m13) (m14) (m15) (m16) (m17) (m18) (m19) (m20) (m21) (0) (0) (0) (m25) (m26) (0) (0) (m29) (m30) (m31) (m32) (0) (m34) (m35) (m36) (m37) (0) (0) (m40) (m41) (m42) (m43) (m44) (m45) (m46) (m47) (m48) (m49) (m50) (m51) (m52)) (cwV 0 hts (gV_G k1327 k1328 k1329 k13 k1330) rfl rfl rfl (by decide +kernel) ⟨Nat.le_of_ble_eq_true rfl, Nat.le_of_ble_eq_true rfl⟩) ⟨fun a U g mk q => by obtain ⟨q0, q1, qP, qK, qD⟩ := q; exact ⟨q0, q1, qP, va_K.moved (u := U) (U := U.calling g mk a) (Vm.Alike.refl U.vm) qK, qD⟩, va_recv hKc hPc (ci := 10) (q0 := 0) rfl rfl, fun U hU hW => ⟨rfl, by rw [hU], by rw [hU]; exact hPc, va_K.moved hW.alike hKc, hDc.weaken (fun _ _ _ _ => trivial)⟩⟩ rfl rfl hl.1 rfl (lv_room (Nat.le_of_ble_eq_true rfl)) dL_law_1338 ⟨Nat.le_of_ble_eq_true rfl, Nat.le_of_ble_eq_true rfl⟩) hS (fun q _ h => hFc q h) hFc (fun r103 u t H1 locs ht hvm hw hB hz1 hk1 hS => ?_)
  obtain ⟨hP1, hK1, hD1⟩ := hB
  rw [ht] at hP1
  have hK1 := va_K.moved hvm.symm hK1
  try dsimp only at hw
  obtain ⟨hP, hD⟩ := va_join (wr := []) (w1 := []) hP hD [0] [] rfl rfl (by decide) (by decide) hk1 hFc hP1 hD1
  have hK := hK.app hK1
  generalize H1 = H at hP hS ⊢
  have hP : va_P (dC, dI) vwCl [] H := hP
  have hD : va_D A [] := hD
  have hK : va_K (dC, dI) vwCl [(d53, .int), (crf, .int), (co, .long)] s := hK
  refine W.widen (k := 6561) (n := 850836) (by omega) (by omega) ?_
  obtain rfl : r103 = 1 := hw
  refine lv_iload hx hb dL_law_1341 (lv_at hl 1 rfl) ?_
  refine lv_icmp_eq (tgt := 1348) hx hb dL_law_1343 (by decide) (fun _ => ?_) (fun c9 => absurd (by decide +kernel) c9)
  refine lv_iload hx hb dL_law_1348 (lv_at hl 1 rfl) ?_
  refine lv_if_ne (tgt := 1365) hx hb dL_law_1350 (by decide) (fun _ => ?_) (fun c9 => absurd c9 (by decide +kernel))
  refine lv_goto (tgt := 2301) hx hb dL_law_1365 (by decide) ?_
  refine W.widen (k := 6567) (n := 850872) (by omega) (by omega) ?_
  exact hend H locs ls hS (lv_sub hl [2, 6] rfl)
set_option maxHeartbeats 4000000 in
set_option maxRecDepth 100000 in
theorem lc_unlike {p : Program} {l : Launch} {e : Env} {s : State} {m : MethodId} {below : List Frame} {meth : Method} {c : Code} {dC : Nat → ClassId} {dI : Nat → Nat → Nat} {A : Nat → Prop} {b : Nat} {xs : Nat → Int32} (C0 : lx_C p l s m c A b xs) {x0 w1 w6 w8 w15 w22 w26 w31 w35 w40 w48 w50 w52 w9 w10 w11 w12 w13 y0 m1 m8 m11 m12 m13 m14 m15 m16 m17 m18 m19 m20 m21 m25 m26 m29 m30 m31 m32 m34 m35 m36 m37 m40 m41 m42 m43 m44 m45 m46 m47 m48 m49 m50 m51 m52 o0 : Nat} {d53 crf cnd co : ClassId}  {v1 : Int32} (hs1 : xs (1 : Int32).toNatClampNeg = v1)
    (hend : ∀ (H : Heap) (locs : List Loc) (ls : Array Slot), va_S A s.heap H locs → lv_has ls 7 [(4, .int 0), (0, .ref b)] → W p l e room_1 s m #[Value.ref b] below meth c H locs 6567 850872 (lw_Z below #[Value.ref b] s) (F0 m 2301 ls []))
    {H : Heap} {locs : List Loc} {ls : Array Slot} (hP : va_P (dC, dI) vwCl [(x0, .inr (9, [.ref w1, .ref w6, .int 0, .ref w8, .ref w15, .int 0, .int 0, .ref w22, .ref w26, .ref w31, .ref w35, .ref w40, .ref w48, .ref w50, .ref w52])), (w52, .inl (d53, 3, .inl (fun _ => 0))), (w8, .inr (4, [.ref w9, .ref w10, .ref w11, .ref w12, .ref w13, .int 0, .int 0, .int 0])), (y0, .inr (10, [.int 0, .ref m1, .int 0, .int 0, .int 0, .int (-1), .int 0, .int 0, .ref m8, .int 0, .int 0, .ref m11, .ref m12, .ref m13, .ref m14, .ref m15, .ref m16, .ref m17, .ref m18, .ref m19, .ref m20, .ref m21, .int 0, .int 0, .int 0, .ref m25, .ref m26, .int 0, .int 0, .ref m29, .ref m30, .ref m31, .ref m32, .int 0, .ref m34, .ref m35, .ref m36, .ref m37, .int 0, .int 0, .ref m40, .ref m41, .ref m42, .ref m43, .ref m44, .ref m45, .ref m46, .ref m47, .ref m48, .ref m49, .ref m50, .ref m51, .ref m52])), (m1, .inl (crf, 3, .inl (fun _ => 0))), (m21, .inl (cnd, 70, .inl (fun _ => 0))), (o0, .inl (co, 1, .inr (.inl (fun _ => 0))))] H) (hD : va_D A [(x0, .inr (9, [.ref w1, .ref w6, .int 0, .ref w8, .ref w15, .int 0, .int 0, .ref w22, .ref w26, .ref w31, .ref w35, .ref w40, .ref w48, .ref w50, .ref w52])), (w52, .inl (d53, 3, .inl (fun _ => 0))), (w8, .inr (4, [.ref w9, .ref w10, .ref w11, .ref w12, .ref w13, .int 0, .int 0, .int 0])), (y0, .inr (10, [.int 0, .ref m1, .int 0, .int 0, .int 0, .int (-1), .int 0, .int 0, .ref m8, .int 0, .int 0, .ref m11, .ref m12, .ref m13, .ref m14, .ref m15, .ref m16, .ref m17, .ref m18, .ref m19, .ref m20, .ref m21, .int 0, .int 0, .int 0, .ref m25, .ref m26, .int 0, .int 0, .ref m29, .ref m30, .ref m31, .ref m32, .int 0, .ref m34, .ref m35, .ref m36, .ref m37, .int 0, .int 0, .ref m40, .ref m41, .ref m42, .ref m43, .ref m44, .ref m45, .ref m46, .ref m47, .ref m48, .ref m49, .ref m50, .ref m51, .ref m52])), (m1, .inl (crf, 3, .inl (fun _ => 0))), (m21, .inl (cnd, 70, .inl (fun _ => 0))), (o0, .inl (co, 1, .inr (.inl (fun _ => 0))))]) (hK : va_K (dC, dI) vwCl [(d53, .int), (crf, .int), (cnd, .int), (co, .long)] s) (hS : va_S A s.heap H locs) (hl : lv_has ls 7 [(4, .int 0), (3, .ref o0), (2, .ref y0), (1, .ref x0), (0, .ref b)]) : W p l e room_1 s m #[Value.ref b] below meth c H locs 6559 850824 (lw_Z below #[Value.ref b] s) (F0 m 1368 ls []) := by
  obtain ⟨hfl, hx, hb, hml, hown, hts, hX, hbl, hbA, hA, hEx, hNc⟩ := C0
  refine lv_aload_n hx hb dL_law_1368 rfl (lv_at hl 3 rfl) ?_
  refine lv_aload_n hx hb dL_law_1369 rfl (lv_at hl 4 rfl) ?_
  refine lv_iload hx hb dL_law_1370 (lv_at hl 0 rfl) ?_
  refine lv_iconst (v := 1) hx hb dL_law_1372 (by decide) ?_
  refine lv_iadd hx hb dL_law_1373 ?_
  refine lv_topi (fun x9 ex9 => ?_)
  obtain rfl : x9 = 1 := ex9.trans (by decide +kernel)
  refine va_sld hx hb hX hbl hbA hS (by unfold vp_in; decide +kernel) dL_law_1374 ?_
  refine lv_topi (fun x9 ex9 => ?_)
  obtain rfl : v1 = x9 := (ex9.trans hs1).symm
  refine lv_aload_n hx hb dL_law_1375 rfl (lv_at hl 1 rfl) ?_
  have hPc := hP.sub (ws' := [(x0, .inr (9, [.ref w1, .ref w6, .int 0, .ref w8, .ref w15, .int 0, .int 0, .ref w22, .ref w26, .ref w31, .ref w35, .ref w40, .ref w48, .ref w50, .ref w52])), (w52, .inl (d53, 3, .inl (fun _ => 0))), (w8, .inr (4, [.ref w9, .ref w10, .ref w11, .ref w12, .ref w13, .int 0, .int 0, .int 0])), (o0, .inl (co, 1, .inr (.inl (fun _ => 0))))]) [0, 1, 2, 6] rfl
  have hDc := hD.sub (ws' := [(x0, .inr (9, [.ref w1, .ref w6, .int 0, .ref w8, .ref w15, .int 0, .int 0, .ref w22, .ref w26, .ref w31, .ref w35, .ref w40, .ref w48, .ref w50, .ref w52])), (w52, .inl (d53, 3, .inl (fun _ => 0))), (w8, .inr (4, [.ref w9, .ref w10, .ref w11, .ref w12, .ref w13, .int 0, .int 0, .int 0])), (o0, .inl (co, 1, .inr (.inl (fun _ => 0))))]) [0, 1, 2, 6] (by decide) rfl
  have hKc := hK.sub (tys' := [(d53, .int), (co, .long)]) [0, 3] rfl
  have hFc := va_free (wc := [(x0, .inr (9, [.ref w1, .ref w6, .int 0, .ref w8, .ref w15, .int 0, .int 0, .ref w22, .ref w26, .ref w31, .ref w35, .ref w40, .ref w48, .ref w50, .ref w52])), (w52, .inl (d53, 3, .inl (fun _ => 0))), (w8, .inr (4, [.ref w9, .ref w10, .ref w11, .ref w12, .ref w13, .int 0, .int 0, .int 0])), (o0, .inl (co, 1, .inr (.inl (fun _ => 0))))]) hD hS hA [0, 1, 2, 6] rfl
  refine va_calli (vx_runSW (hh := [(0, 9, 12, 20)]) (As := [.ref x0, .int v1, .ref o0]) (rest := []) ⟨hx, hb, hml, hown, hts⟩ (w_unlike l hfl dC dI H.size (x0) (w1) (w6) (w8) (w15) (w22) (w26) (w31) (w35) (w40) (w48) (w50) (w52) (w9) (w10) (w11) (w12) (w13) (d53) (o0) (co) (v1)) (vx_cwSW 3 hts (gW_G k1001 k1002 k0 k1003) rfl rfl rfl (by decide +kernel) ⟨Nat.le_of_ble_eq_true rfl, Nat.le_of_ble_eq_true rfl⟩) ⟨fun a U g mk q => by obtain ⟨q0, q1, qP, qK, qD, qE⟩ := q; exact ⟨q0, q1, qP, va_K.moved (u := U) (U := U.calling g mk a) (Vm.Alike.refl U.vm) qK, qD, xX_call qE⟩, fun U hU hW => ⟨rfl, by rw [hU], by rw [hU]; exact hPc, va_K.moved hW.alike hKc, hDc.weaken (fun _ _ _ _ => trivial), xX_at hEx hS (fun q h => hFc q h) hU hW⟩⟩ rfl rfl hl.1 rfl (lv_room (Nat.le_of_ble_eq_true rfl)) dL_law_1376 ⟨Nat.le_of_ble_eq_true rfl, Nat.le_of_ble_eq_true rfl⟩) hS (fun q _ h => hFc q h) hFc (fun r101 u t H1 locs ht hvm hw hB hz1 hk1 hS => ?_)
  obtain ⟨hP1, hK1, hD1⟩ := hB
  rw [ht] at hP1
  have hK1 := va_K.moved hvm.symm hK1
  try dsimp only at hw
  obtain ⟨hP, hD⟩ := va_join (wr := [(y0, .inr (10, [.int 0, .ref m1, .int 0, .int 0, .int 0, .int (-1), .int 0, .int 0, .ref m8, .int 0, .int 0, .ref m11, .ref m12, .ref m13, .ref m14, .ref m15, .ref m16, .ref m17, .ref m18, .ref m19, .ref m20, .ref m21, .int 0, .int 0, .int 0, .ref m25, .ref m26, .int 0, .int 0, .ref m29, .ref m30, .ref m31, .ref m32, .int 0, .ref m34, .ref m35, .ref m36, .ref m37, .int 0, .int 0, .ref m40, .ref m41, .ref m42, .ref m43, .ref m44, .ref m45, .ref m46, .ref m47, .ref m48, .ref m49, .ref m50, .ref m51, .ref m52])), (m1, .inl (crf, 3, .inl (fun _ => 0))), (m21, .inl (cnd, 70, .inl (fun _ => 0)))]) (w1 := []) hP hD [0, 1, 2, 6] [3, 4, 5] rfl rfl (by decide) (by decide) hk1 hFc hP1 hD1
  have hK := hK.app hK1
  generalize H1 = H at hP hS ⊢
  have hP : va_P (dC, dI) vwCl [(y0, .inr (10, [.int 0, .ref m1, .int 0, .int 0, .int 0, .int (-1), .int 0, .int 0, .ref m8, .int 0, .int 0, .ref m11, .ref m12, .ref m13, .ref m14, .ref m15, .ref m16, .ref m17, .ref m18, .ref m19, .ref m20, .ref m21, .int 0, .int 0, .int 0, .ref m25, .ref m26, .int 0, .int 0, .ref m29, .ref m30, .ref m31, .ref m32, .int 0, .ref m34, .ref m35, .ref m36, .ref m37, .int 0, .int 0, .ref m40, .ref m41, .ref m42, .ref m43, .ref m44, .ref m45, .ref m46, .ref m47, .ref m48, .ref m49, .ref m50, .ref m51, .ref m52])), (m1, .inl (crf, 3, .inl (fun _ => 0))), (m21, .inl (cnd, 70, .inl (fun _ => 0)))] H := hP
  have hD : va_D A [(y0, .inr (10, [.int 0, .ref m1, .int 0, .int 0, .int 0, .int (-1), .int 0, .int 0, .ref m8, .int 0, .int 0, .ref m11, .ref m12, .ref m13, .ref m14, .ref m15, .ref m16, .ref m17, .ref m18, .ref m19, .ref m20, .ref m21, .int 0, .int 0, .int 0, .ref m25, .ref m26, .int 0, .int 0, .ref m29, .ref m30, .ref m31, .ref m32, .int 0, .ref m34, .ref m35, .ref m36, .ref m37, .int 0, .int 0, .ref m40, .ref m41, .ref m42, .ref m43, .ref m44, .ref m45, .ref m46, .ref m47, .ref m48, .ref m49, .ref m50, .ref m51, .ref m52])), (m1, .inl (crf, 3, .inl (fun _ => 0))), (m21, .inl (cnd, 70, .inl (fun _ => 0)))] := hD
  have hK : va_K (dC, dI) vwCl [(d53, .int), (crf, .int), (cnd, .int), (co, .long)] s := hK
  refine W.widen (k := 6561) (n := 850836) (by omega) (by omega) ?_
  obtain rfl : r101 = 1 := hw
  refine lv_istore (lv' := [(5, .int 1), (4, .int 0), (3, .ref o0), (2, .ref y0), (1, .ref x0), (0, .ref b)]) hx hb dL_law_1379 hl (by decide) rfl (fun ls hl => ?_)
  refine lv_aload_n hx hb dL_law_1381 rfl (lv_at hl 3 rfl) ?_
  refine lv_aload_n hx hb dL_law_1382 rfl (lv_at hl 5 rfl) ?_
  refine lv_iload hx hb dL_law_1383 (lv_at hl 1 rfl) ?_
  refine lv_iconst (v := 1) hx hb dL_law_1385 (by decide) ?_
  refine lv_iadd hx hb dL_law_1386 ?_
  refine lv_topi (fun x9 ex9 => ?_)
  obtain rfl : x9 = 1 := ex9.trans (by decide +kernel)
  refine va_sld hx hb hX hbl hbA hS (by unfold vp_in; decide +kernel) dL_law_1387 ?_
  refine lv_topi (fun x9 ex9 => ?_)
  obtain rfl : v1 = x9 := (ex9.trans hs1).symm
  have hPc := hP.sub (ws' := [(y0, .inr (10, [.int 0, .ref m1, .int 0, .int 0, .int 0, .int (-1), .int 0, .int 0, .ref m8, .int 0, .int 0, .ref m11, .ref m12, .ref m13, .ref m14, .ref m15, .ref m16, .ref m17, .ref m18, .ref m19, .ref m20, .ref m21, .int 0, .int 0, .int 0, .ref m25, .ref m26, .int 0, .int 0, .ref m29, .ref m30, .ref m31, .ref m32, .int 0, .ref m34, .ref m35, .ref m36, .ref m37, .int 0, .int 0, .ref m40, .ref m41, .ref m42, .ref m43, .ref m44, .ref m45, .ref m46, .ref m47, .ref m48, .ref m49, .ref m50, .ref m51, .ref m52])), (m1, .inl (crf, 3, .inl (fun _ => 0))), (m21, .inl (cnd, 70, .inl (fun _ => 0)))]) [0, 1, 2] rfl
  have hDc := hD.sub (ws' := [(y0, .inr (10, [.int 0, .ref m1, .int 0, .int 0, .int 0, .int (-1), .int 0, .int 0, .ref m8, .int 0, .int 0, .ref m11, .ref m12, .ref m13, .ref m14, .ref m15, .ref m16, .ref m17, .ref m18, .ref m19, .ref m20, .ref m21, .int 0, .int 0, .int 0, .ref m25, .ref m26, .int 0, .int 0, .ref m29, .ref m30, .ref m31, .ref m32, .int 0, .ref m34, .ref m35, .ref m36, .ref m37, .int 0, .int 0, .ref m40, .ref m41, .ref m42, .ref m43, .ref m44, .ref m45, .ref m46, .ref m47, .ref m48, .ref m49, .ref m50, .ref m51, .ref m52])), (m1, .inl (crf, 3, .inl (fun _ => 0))), (m21, .inl (cnd, 70, .inl (fun _ => 0)))]) [0, 1, 2] (by decide) rfl
  have hKc := hK.sub (tys' := [(crf, .int), (cnd, .int)]) [1, 2] rfl
  have hFc := va_free (wc := [(y0, .inr (10, [.int 0, .ref m1, .int 0, .int 0, .int 0, .int (-1), .int 0, .int 0, .ref m8, .int 0, .int 0, .ref m11, .ref m12, .ref m13, .ref m14, .ref m15, .ref m16, .ref m17, .ref m18, .ref m19, .ref m20, .ref m21, .int 0, .int 0, .int 0, .ref m25, .ref m26, .int 0, .int 0, .ref m29, .ref m30, .ref m31, .ref m32, .int 0, .ref m34, .ref m35, .ref m36, .ref m37, .int 0, .int 0, .ref m40, .ref m41, .ref m42, .ref m43, .ref m44, .ref m45, .ref m46, .ref m47, .ref m48, .ref m49, .ref m50, .ref m51, .ref m52])), (m1, .inl (crf, 3, .inl (fun _ => 0))), (m21, .inl (cnd, 70, .inl (fun _ => 0)))]) hD hS hA [0, 1, 2] rfl
  refine va_calli (va_runV (As := [.int v1]) (rest := []) ⟨hx, hb, hml, hown, hts⟩ (m_unlike l dC dI H.size (y0) (m1) (m8) (m11) (m12) (m13) (m14) (m15) (m16) (m17) (m18) (m19) (m20) (m21) (m25) (m26) (m29) (m30) (m31) (m32) (m34) (m35) (m36) (m37) (m40) (m41) (m42) (m43) (m44) (m45) (m46) (m47) (m48) (m49) (m50) (m51) (m52) (crf) (cnd) (v1)) (cwV 1 hts (gV_G k1683 k1684 k1685 k13 k1686) rfl rfl rfl (by decide +kernel) ⟨Nat.le_of_ble_eq_true rfl, Nat.le_of_ble_eq_true rfl⟩) ⟨fun a U g mk q => by obtain ⟨q0, q1, qP, qK, qD⟩ := q; exact ⟨q0, q1, qP, va_K.moved (u := U) (U := U.calling g mk a) (Vm.Alike.refl U.vm) qK, qD⟩, va_recv hKc hPc (ci := 10) (q0 := 0) rfl rfl, fun U hU hW => ⟨rfl, by rw [hU], by rw [hU]; exact hPc, va_K.moved hW.alike hKc, hDc.weaken (fun _ _ _ _ => trivial)⟩⟩ rfl rfl hl.1 rfl (lv_room (Nat.le_of_ble_eq_true rfl)) dL_law_1388 ⟨Nat.le_of_ble_eq_true rfl, Nat.le_of_ble_eq_true rfl⟩) hS (fun q _ h => hFc q h) hFc (fun r102 u t H1 locs ht hvm hw hB hz1 hk1 hS => ?_)
  obtain ⟨hP1, hK1, hD1⟩ := hB
  rw [ht] at hP1
  have hK1 := va_K.moved hvm.symm hK1
  try dsimp only at hw
  obtain ⟨hP, hD⟩ := va_join (wr := []) (w1 := [(y0, .inr (10, [.int 1, .ref m1, .int 0, .int 0, .int 0, .int (-1), .int 0, .int 0, .ref m8, .int 0, .int 0, .ref m11, .ref m12, .ref m13, .ref m14, .ref m15, .ref m16, .ref m17, .ref m18, .ref m19, .ref m20, .ref m21, .int 0, .int 0, .int 0, .ref m25, .ref m26, .int 0, .int 0, .ref m29, .ref m30, .ref m31, .ref m32, .int 0, .ref m34, .ref m35, .ref m36, .ref m37, .int 0, .int 0, .ref m40, .ref m41, .ref m42, .ref m43, .ref m44, .ref m45, .ref m46, .ref m47, .ref m48, .ref m49, .ref m50, .ref m51, .ref m52]))]) hP hD [0, 1, 2] [] rfl rfl (by decide) (by decide) hk1 hFc hP1 hD1
  have hK := hK.app hK1
  generalize H1 = H at hP hS ⊢
  have hP : va_P (dC, dI) vwCl [(y0, .inr (10, [.int 1, .ref m1, .int 0, .int 0, .int 0, .int (-1), .int 0, .int 0, .ref m8, .int 0, .int 0, .ref m11, .ref m12, .ref m13, .ref m14, .ref m15, .ref m16, .ref m17, .ref m18, .ref m19, .ref m20, .ref m21, .int 0, .int 0, .int 0, .ref m25, .ref m26, .int 0, .int 0, .ref m29, .ref m30, .ref m31, .ref m32, .int 0, .ref m34, .ref m35, .ref m36, .ref m37, .int 0, .int 0, .ref m40, .ref m41, .ref m42, .ref m43, .ref m44, .ref m45, .ref m46, .ref m47, .ref m48, .ref m49, .ref m50, .ref m51, .ref m52]))] H := hP
  have hD : va_D A [(y0, .inr (10, [.int 1, .ref m1, .int 0, .int 0, .int 0, .int (-1), .int 0, .int 0, .ref m8, .int 0, .int 0, .ref m11, .ref m12, .ref m13, .ref m14, .ref m15, .ref m16, .ref m17, .ref m18, .ref m19, .ref m20, .ref m21, .int 0, .int 0, .int 0, .ref m25, .ref m26, .int 0, .int 0, .ref m29, .ref m30, .ref m31, .ref m32, .int 0, .ref m34, .ref m35, .ref m36, .ref m37, .int 0, .int 0, .ref m40, .ref m41, .ref m42, .ref m43, .ref m44, .ref m45, .ref m46, .ref m47, .ref m48, .ref m49, .ref m50, .ref m51, .ref m52]))] := hD
  have hK : va_K (dC, dI) vwCl [(d53, .int), (crf, .int), (cnd, .int), (co, .long)] s := hK
  refine W.widen (k := 6561) (n := 850836) (by omega) (by omega) ?_
  obtain rfl : r102 = 0 := hw
  refine lv_istore (lv' := [(6, .int 0), (5, .int 1), (4, .int 0), (3, .ref o0), (2, .ref y0), (1, .ref x0), (0, .ref b)]) hx hb dL_law_1391 hl (by decide) rfl (fun ls hl => ?_)
  refine lv_aload_n hx hb dL_law_1393 rfl (lv_at hl 4 rfl) ?_
  have hPc := hP.sub (ws' := [(y0, .inr (10, [.int 1, .ref m1, .int 0, .int 0, .int 0, .int (-1), .int 0, .int 0, .ref m8, .int 0, .int 0, .ref m11, .ref m12, .ref m13, .ref m14, .ref m15, .ref m16, .ref m17, .ref m18, .ref m19, .ref m20, .ref m21, .int 0, .int 0, .int 0, .ref m25, .ref m26, .int 0, .int 0, .ref m29, .ref m30, .ref m31, .ref m32, .int 0, .ref m34, .ref m35, .ref m36, .ref m37, .int 0, .int 0, .ref m40, .ref m41, .ref m42, .ref m43, .ref m44, .ref m45, .ref m46, .ref m47, .ref m48, .ref m49, .ref m50, .ref m51, .ref m52]))]) [0] rfl
  have hDc := hD.sub (ws' := [(y0, .inr (10, [.int 1, .ref m1, .int 0, .int 0, .int 0, .int (-1), .int 0, .int 0, .ref m8, .int 0, .int 0, .ref m11, .ref m12, .ref m13, .ref m14, .ref m15, .ref m16, .ref m17, .ref m18, .ref m19, .ref m20, .ref m21, .int 0, .int 0, .int 0, .ref m25, .ref m26, .int 0, .int 0, .ref m29, .ref m30, .ref m31, .ref m32, .int 0, .ref m34, .ref m35, .ref m36, .ref m37, .int 0, .int 0, .ref m40, .ref m41, .ref m42, .ref m43, .ref m44, .ref m45, .ref m46, .ref m47, .ref m48, .ref m49, .ref m50, .ref m51, .ref m52]))]) [0] (by decide) rfl
  have hKc := hK.sub (tys' := []) [] rfl
  have hFc := va_free (wc := [(y0, .inr (10, [.int 1, .ref m1, .int 0, .int 0, .int 0, .int (-1), .int 0, .int 0, .ref m8, .int 0, .int 0, .ref m11, .ref m12, .ref m13, .ref m14, .ref m15, .ref m16, .ref m17, .ref m18, .ref m19, .ref m20, .ref m21, .int 0, .int 0, .int 0, .ref m25, .ref m26, .int 0, .int 0, .ref m29, .ref m30, .ref m31, .ref m32, .int 0, .ref m34, .ref m35, .ref m36, .ref m37, .int 0, .int 0, .ref m40, .ref m41, .ref m42, .ref m43, .ref m44, .ref m45, .ref m46, .ref m47, .ref m48, .ref m49, .ref m50, .ref m51, .ref m52]))]) hD hS hA [0] rfl
  refine va_calli (va_runV (As := []) (rest := []) ⟨hx, hb, hml, hown, hts⟩ (m_thrown l dC dI H.size (y0) (1) (m1) (0) (0) (0) ((-1)) (0) (0) (m8) (0) (0) (m11) (m12) (m13) (m14) (m15) (m16) (m17) (m18) (m19) (m20) (m21) (0) (0) (0) (m25) (m26) (0) (0) (m29) (m30) (m31) (m32) (0) (m34) (m35) (m36) (m37) (0) (0) (m40) (m41) (m42) (m43) (m44) (m45) (m46) (m47) (m48) (m49) (m50) (m51) (m52)) (cwV 0 hts (gV_G k1327 k1328 k1329 k13 k1330) rfl rfl rfl (by decide +kernel) ⟨Nat.le_of_ble_eq_true rfl, Nat.le_of_ble_eq_true rfl⟩) ⟨fun a U g mk q => by obtain ⟨q0, q1, qP, qK, qD⟩ := q; exact ⟨q0, q1, qP, va_K.moved (u := U) (U := U.calling g mk a) (Vm.Alike.refl U.vm) qK, qD⟩, va_recv hKc hPc (ci := 10) (q0 := 0) rfl rfl, fun U hU hW => ⟨rfl, by rw [hU], by rw [hU]; exact hPc, va_K.moved hW.alike hKc, hDc.weaken (fun _ _ _ _ => trivial)⟩⟩ rfl rfl hl.1 rfl (lv_room (Nat.le_of_ble_eq_true rfl)) dL_law_1394 ⟨Nat.le_of_ble_eq_true rfl, Nat.le_of_ble_eq_true rfl⟩) hS (fun q _ h => hFc q h) hFc (fun r103 u t H1 locs ht hvm hw hB hz1 hk1 hS => ?_)
  obtain ⟨hP1, hK1, hD1⟩ := hB
  rw [ht] at hP1
  have hK1 := va_K.moved hvm.symm hK1
  try dsimp only at hw
  obtain ⟨hP, hD⟩ := va_join (wr := []) (w1 := []) hP hD [0] [] rfl rfl (by decide) (by decide) hk1 hFc hP1 hD1
  have hK := hK.app hK1
  generalize H1 = H at hP hS ⊢
  have hP : va_P (dC, dI) vwCl [] H := hP
  have hD : va_D A [] := hD
  have hK : va_K (dC, dI) vwCl [(d53, .int), (crf, .int), (cnd, .int), (co, .long)] s := hK
  refine W.widen (k := 6561) (n := 850836) (by omega) (by omega) ?_
  obtain rfl : r103 = 1 := hw
  refine lv_iload hx hb dL_law_1397 (lv_at hl 1 rfl) ?_
  refine lv_icmp_eq (tgt := 1404) hx hb dL_law_1399 (by decide) (fun _ => ?_) (fun c9 => absurd (by decide +kernel) c9)
  refine lv_iload hx hb dL_law_1404 (lv_at hl 1 rfl) ?_
  refine lv_if_ne (tgt := 1421) hx hb dL_law_1406 (by decide) (fun _ => ?_) (fun c9 => absurd c9 (by decide +kernel))
  refine lv_goto (tgt := 2301) hx hb dL_law_1421 (by decide) ?_
  refine W.widen (k := 6567) (n := 850872) (by omega) (by omega) ?_
  exact hend H locs ls hS (lv_sub hl [2, 6] rfl)
set_option maxHeartbeats 4000000 in
set_option maxRecDepth 100000 in
theorem lc_would {p : Program} {l : Launch} {e : Env} {s : State} {m : MethodId} {below : List Frame} {meth : Method} {c : Code} {dC : Nat → ClassId} {dI : Nat → Nat → Nat} {A : Nat → Prop} {b : Nat} {xs : Nat → Int32} (C0 : lx_C p l s m c A b xs) {x0 w1 w6 w8 w15 w22 w26 w31 w35 w40 w48 w50 w52 y0 m1 m8 m11 m12 m13 m14 m15 m16 m17 m18 m19 m20 m21 m25 m26 m29 m30 m31 m32 m34 m35 m36 m37 m40 m41 m42 m43 m44 m45 m46 m47 m48 m49 m50 m51 m52 o0 : Nat} {d53 crf co : ClassId}  {v1 : Int32} {v2 : Int32} (hs1 : xs (1 : Int32).toNatClampNeg = v1) (hs2 : xs (2 : Int32).toNatClampNeg = v2)
    (hend : ∀ (H : Heap) (locs : List Loc) (ls : Array Slot), va_S A s.heap H locs → lv_has ls 7 [(4, .int 0), (0, .ref b)] → W p l e room_1 s m #[Value.ref b] below meth c H locs 6567 850872 (lw_Z below #[Value.ref b] s) (F0 m 2301 ls []))
    {H : Heap} {locs : List Loc} {ls : Array Slot} (hP : va_P (dC, dI) vwCl [(x0, .inr (9, [.ref w1, .ref w6, .int 0, .ref w8, .ref w15, .int 0, .int 0, .ref w22, .ref w26, .ref w31, .ref w35, .ref w40, .ref w48, .ref w50, .ref w52])), (w52, .inl (d53, 3, .inl (fun _ => 0))), (y0, .inr (10, [.int 0, .ref m1, .int 0, .int 0, .int 0, .int (-1), .int 0, .int 0, .ref m8, .int 0, .int 0, .ref m11, .ref m12, .ref m13, .ref m14, .ref m15, .ref m16, .ref m17, .ref m18, .ref m19, .ref m20, .ref m21, .int 0, .int 0, .int 0, .ref m25, .ref m26, .int 0, .int 0, .ref m29, .ref m30, .ref m31, .ref m32, .int 0, .ref m34, .ref m35, .ref m36, .ref m37, .int 0, .int 0, .ref m40, .ref m41, .ref m42, .ref m43, .ref m44, .ref m45, .ref m46, .ref m47, .ref m48, .ref m49, .ref m50, .ref m51, .ref m52])), (m1, .inl (crf, 3, .inl (fun _ => 0))), (o0, .inl (co, 1, .inr (.inl (fun _ => 0))))] H) (hD : va_D A [(x0, .inr (9, [.ref w1, .ref w6, .int 0, .ref w8, .ref w15, .int 0, .int 0, .ref w22, .ref w26, .ref w31, .ref w35, .ref w40, .ref w48, .ref w50, .ref w52])), (w52, .inl (d53, 3, .inl (fun _ => 0))), (y0, .inr (10, [.int 0, .ref m1, .int 0, .int 0, .int 0, .int (-1), .int 0, .int 0, .ref m8, .int 0, .int 0, .ref m11, .ref m12, .ref m13, .ref m14, .ref m15, .ref m16, .ref m17, .ref m18, .ref m19, .ref m20, .ref m21, .int 0, .int 0, .int 0, .ref m25, .ref m26, .int 0, .int 0, .ref m29, .ref m30, .ref m31, .ref m32, .int 0, .ref m34, .ref m35, .ref m36, .ref m37, .int 0, .int 0, .ref m40, .ref m41, .ref m42, .ref m43, .ref m44, .ref m45, .ref m46, .ref m47, .ref m48, .ref m49, .ref m50, .ref m51, .ref m52])), (m1, .inl (crf, 3, .inl (fun _ => 0))), (o0, .inl (co, 1, .inr (.inl (fun _ => 0))))]) (hK : va_K (dC, dI) vwCl [(d53, .int), (crf, .int), (co, .long)] s) (hS : va_S A s.heap H locs) (hl : lv_has ls 7 [(4, .int 0), (3, .ref o0), (2, .ref y0), (1, .ref x0), (0, .ref b)]) : W p l e room_1 s m #[Value.ref b] below meth c H locs 6559 850824 (lw_Z below #[Value.ref b] s) (F0 m 1424 ls []) := by
  obtain ⟨hfl, hx, hb, hml, hown, hts, hX, hbl, hbA, hA, hEx, hNc⟩ := C0
  refine lv_aload_n hx hb dL_law_1424 rfl (lv_at hl 3 rfl) ?_
  refine lv_aload_n hx hb dL_law_1425 rfl (lv_at hl 4 rfl) ?_
  refine lv_iload hx hb dL_law_1426 (lv_at hl 0 rfl) ?_
  refine lv_iconst (v := 1) hx hb dL_law_1428 (by decide) ?_
  refine lv_iadd hx hb dL_law_1429 ?_
  refine lv_topi (fun x9 ex9 => ?_)
  obtain rfl : x9 = 1 := ex9.trans (by decide +kernel)
  refine va_sld hx hb hX hbl hbA hS (by unfold vp_in; decide +kernel) dL_law_1430 ?_
  refine lv_topi (fun x9 ex9 => ?_)
  obtain rfl : v1 = x9 := (ex9.trans hs1).symm
  refine lv_aload_n hx hb dL_law_1431 rfl (lv_at hl 4 rfl) ?_
  refine lv_iload hx hb dL_law_1432 (lv_at hl 0 rfl) ?_
  refine lv_iconst (v := 2) hx hb dL_law_1434 (by decide) ?_
  refine lv_iadd hx hb dL_law_1435 ?_
  refine lv_topi (fun x9 ex9 => ?_)
  obtain rfl : x9 = 2 := ex9.trans (by decide +kernel)
  refine va_sld hx hb hX hbl hbA hS (by unfold vp_in; decide +kernel) dL_law_1436 ?_
  refine lv_topi (fun x9 ex9 => ?_)
  obtain rfl : v2 = x9 := (ex9.trans hs2).symm
  refine lv_aload_n hx hb dL_law_1437 rfl (lv_at hl 1 rfl) ?_
  have hPc := hP.sub (ws' := [(x0, .inr (9, [.ref w1, .ref w6, .int 0, .ref w8, .ref w15, .int 0, .int 0, .ref w22, .ref w26, .ref w31, .ref w35, .ref w40, .ref w48, .ref w50, .ref w52])), (w52, .inl (d53, 3, .inl (fun _ => 0))), (o0, .inl (co, 1, .inr (.inl (fun _ => 0))))]) [0, 1, 4] rfl
  have hDc := hD.sub (ws' := [(x0, .inr (9, [.ref w1, .ref w6, .int 0, .ref w8, .ref w15, .int 0, .int 0, .ref w22, .ref w26, .ref w31, .ref w35, .ref w40, .ref w48, .ref w50, .ref w52])), (w52, .inl (d53, 3, .inl (fun _ => 0))), (o0, .inl (co, 1, .inr (.inl (fun _ => 0))))]) [0, 1, 4] (by decide) rfl
  have hKc := hK.sub (tys' := [(d53, .int), (co, .long)]) [0, 2] rfl
  have hFc := va_free (wc := [(x0, .inr (9, [.ref w1, .ref w6, .int 0, .ref w8, .ref w15, .int 0, .int 0, .ref w22, .ref w26, .ref w31, .ref w35, .ref w40, .ref w48, .ref w50, .ref w52])), (w52, .inl (d53, 3, .inl (fun _ => 0))), (o0, .inl (co, 1, .inr (.inl (fun _ => 0))))]) hD hS hA [0, 1, 4] rfl
  refine va_calli (vx_runSW (hh := [(0, 10, 13, 20), (0, 10, 17, 13)]) (As := [.ref x0, .int v1, .int v2, .ref o0]) (rest := []) ⟨hx, hb, hml, hown, hts⟩ (w_would l hfl dC dI H.size (x0) (w1) (w6) (w8) (w15) (w22) (w26) (w31) (w35) (w40) (w48) (w50) (w52) (d53) (o0) (co) (v1) (v2)) (vx_cwSW 4 hts (gW_G k1012 k1013 k0 k1014) rfl rfl rfl (by decide +kernel) ⟨Nat.le_of_ble_eq_true rfl, Nat.le_of_ble_eq_true rfl⟩) ⟨fun a U g mk q => by obtain ⟨q0, q1, qP, qK, qD, qE⟩ := q; exact ⟨q0, q1, qP, va_K.moved (u := U) (U := U.calling g mk a) (Vm.Alike.refl U.vm) qK, qD, xX_call qE⟩, fun U hU hW => ⟨rfl, by rw [hU], by rw [hU]; exact hPc, va_K.moved hW.alike hKc, hDc.weaken (fun _ _ _ _ => trivial), xX_at hEx hS (fun q h => hFc q h) hU hW⟩⟩ rfl rfl hl.1 rfl (lv_room (Nat.le_of_ble_eq_true rfl)) dL_law_1438 ⟨Nat.le_of_ble_eq_true rfl, Nat.le_of_ble_eq_true rfl⟩) hS (fun q _ h => hFc q h) hFc (fun r101 u t H1 locs ht hvm hw hB hz1 hk1 hS => ?_)
  obtain ⟨hP1, hK1, hD1⟩ := hB
  rw [ht] at hP1
  have hK1 := va_K.moved hvm.symm hK1
  try dsimp only at hw
  obtain ⟨hP, hD⟩ := va_join (wr := [(y0, .inr (10, [.int 0, .ref m1, .int 0, .int 0, .int 0, .int (-1), .int 0, .int 0, .ref m8, .int 0, .int 0, .ref m11, .ref m12, .ref m13, .ref m14, .ref m15, .ref m16, .ref m17, .ref m18, .ref m19, .ref m20, .ref m21, .int 0, .int 0, .int 0, .ref m25, .ref m26, .int 0, .int 0, .ref m29, .ref m30, .ref m31, .ref m32, .int 0, .ref m34, .ref m35, .ref m36, .ref m37, .int 0, .int 0, .ref m40, .ref m41, .ref m42, .ref m43, .ref m44, .ref m45, .ref m46, .ref m47, .ref m48, .ref m49, .ref m50, .ref m51, .ref m52])), (m1, .inl (crf, 3, .inl (fun _ => 0)))]) (w1 := []) hP hD [0, 1, 4] [2, 3] rfl rfl (by decide) (by decide) hk1 hFc hP1 hD1
  have hK := hK.app hK1
  generalize H1 = H at hP hS ⊢
  have hP : va_P (dC, dI) vwCl [(y0, .inr (10, [.int 0, .ref m1, .int 0, .int 0, .int 0, .int (-1), .int 0, .int 0, .ref m8, .int 0, .int 0, .ref m11, .ref m12, .ref m13, .ref m14, .ref m15, .ref m16, .ref m17, .ref m18, .ref m19, .ref m20, .ref m21, .int 0, .int 0, .int 0, .ref m25, .ref m26, .int 0, .int 0, .ref m29, .ref m30, .ref m31, .ref m32, .int 0, .ref m34, .ref m35, .ref m36, .ref m37, .int 0, .int 0, .ref m40, .ref m41, .ref m42, .ref m43, .ref m44, .ref m45, .ref m46, .ref m47, .ref m48, .ref m49, .ref m50, .ref m51, .ref m52])), (m1, .inl (crf, 3, .inl (fun _ => 0)))] H := hP
  have hD : va_D A [(y0, .inr (10, [.int 0, .ref m1, .int 0, .int 0, .int 0, .int (-1), .int 0, .int 0, .ref m8, .int 0, .int 0, .ref m11, .ref m12, .ref m13, .ref m14, .ref m15, .ref m16, .ref m17, .ref m18, .ref m19, .ref m20, .ref m21, .int 0, .int 0, .int 0, .ref m25, .ref m26, .int 0, .int 0, .ref m29, .ref m30, .ref m31, .ref m32, .int 0, .ref m34, .ref m35, .ref m36, .ref m37, .int 0, .int 0, .ref m40, .ref m41, .ref m42, .ref m43, .ref m44, .ref m45, .ref m46, .ref m47, .ref m48, .ref m49, .ref m50, .ref m51, .ref m52])), (m1, .inl (crf, 3, .inl (fun _ => 0)))] := hD
  have hK : va_K (dC, dI) vwCl [(d53, .int), (crf, .int), (co, .long)] s := hK
  refine W.widen (k := 6561) (n := 850836) (by omega) (by omega) ?_
  obtain rfl : r101 = 1 := hw
  refine lv_istore (lv' := [(5, .int 1), (4, .int 0), (3, .ref o0), (2, .ref y0), (1, .ref x0), (0, .ref b)]) hx hb dL_law_1441 hl (by decide) rfl (fun ls hl => ?_)
  refine lv_aload_n hx hb dL_law_1443 rfl (lv_at hl 3 rfl) ?_
  refine lv_aload_n hx hb dL_law_1444 rfl (lv_at hl 5 rfl) ?_
  refine lv_iload hx hb dL_law_1445 (lv_at hl 1 rfl) ?_
  refine lv_iconst (v := 1) hx hb dL_law_1447 (by decide) ?_
  refine lv_iadd hx hb dL_law_1448 ?_
  refine lv_topi (fun x9 ex9 => ?_)
  obtain rfl : x9 = 1 := ex9.trans (by decide +kernel)
  refine va_sld hx hb hX hbl hbA hS (by unfold vp_in; decide +kernel) dL_law_1449 ?_
  refine lv_topi (fun x9 ex9 => ?_)
  obtain rfl : v1 = x9 := (ex9.trans hs1).symm
  refine lv_aload_n hx hb dL_law_1450 rfl (lv_at hl 5 rfl) ?_
  refine lv_iload hx hb dL_law_1451 (lv_at hl 1 rfl) ?_
  refine lv_iconst (v := 2) hx hb dL_law_1453 (by decide) ?_
  refine lv_iadd hx hb dL_law_1454 ?_
  refine lv_topi (fun x9 ex9 => ?_)
  obtain rfl : x9 = 2 := ex9.trans (by decide +kernel)
  refine va_sld hx hb hX hbl hbA hS (by unfold vp_in; decide +kernel) dL_law_1455 ?_
  refine lv_topi (fun x9 ex9 => ?_)
  obtain rfl : v2 = x9 := (ex9.trans hs2).symm
  have hPc := hP.sub (ws' := [(y0, .inr (10, [.int 0, .ref m1, .int 0, .int 0, .int 0, .int (-1), .int 0, .int 0, .ref m8, .int 0, .int 0, .ref m11, .ref m12, .ref m13, .ref m14, .ref m15, .ref m16, .ref m17, .ref m18, .ref m19, .ref m20, .ref m21, .int 0, .int 0, .int 0, .ref m25, .ref m26, .int 0, .int 0, .ref m29, .ref m30, .ref m31, .ref m32, .int 0, .ref m34, .ref m35, .ref m36, .ref m37, .int 0, .int 0, .ref m40, .ref m41, .ref m42, .ref m43, .ref m44, .ref m45, .ref m46, .ref m47, .ref m48, .ref m49, .ref m50, .ref m51, .ref m52])), (m1, .inl (crf, 3, .inl (fun _ => 0)))]) [0, 1] rfl
  have hDc := hD.sub (ws' := [(y0, .inr (10, [.int 0, .ref m1, .int 0, .int 0, .int 0, .int (-1), .int 0, .int 0, .ref m8, .int 0, .int 0, .ref m11, .ref m12, .ref m13, .ref m14, .ref m15, .ref m16, .ref m17, .ref m18, .ref m19, .ref m20, .ref m21, .int 0, .int 0, .int 0, .ref m25, .ref m26, .int 0, .int 0, .ref m29, .ref m30, .ref m31, .ref m32, .int 0, .ref m34, .ref m35, .ref m36, .ref m37, .int 0, .int 0, .ref m40, .ref m41, .ref m42, .ref m43, .ref m44, .ref m45, .ref m46, .ref m47, .ref m48, .ref m49, .ref m50, .ref m51, .ref m52])), (m1, .inl (crf, 3, .inl (fun _ => 0)))]) [0, 1] (by decide) rfl
  have hKc := hK.sub (tys' := [(crf, .int)]) [1] rfl
  have hFc := va_free (wc := [(y0, .inr (10, [.int 0, .ref m1, .int 0, .int 0, .int 0, .int (-1), .int 0, .int 0, .ref m8, .int 0, .int 0, .ref m11, .ref m12, .ref m13, .ref m14, .ref m15, .ref m16, .ref m17, .ref m18, .ref m19, .ref m20, .ref m21, .int 0, .int 0, .int 0, .ref m25, .ref m26, .int 0, .int 0, .ref m29, .ref m30, .ref m31, .ref m32, .int 0, .ref m34, .ref m35, .ref m36, .ref m37, .int 0, .int 0, .ref m40, .ref m41, .ref m42, .ref m43, .ref m44, .ref m45, .ref m46, .ref m47, .ref m48, .ref m49, .ref m50, .ref m51, .ref m52])), (m1, .inl (crf, 3, .inl (fun _ => 0)))]) hD hS hA [0, 1] rfl
  refine va_calli (va_runV (As := [.int v1, .int v2]) (rest := []) ⟨hx, hb, hml, hown, hts⟩ (m_would l dC dI H.size (y0) (m1) (m8) (m11) (m12) (m13) (m14) (m15) (m16) (m17) (m18) (m19) (m20) (m21) (m25) (m26) (m29) (m30) (m31) (m32) (m34) (m35) (m36) (m37) (m40) (m41) (m42) (m43) (m44) (m45) (m46) (m47) (m48) (m49) (m50) (m51) (m52) (crf) (v1) (v2)) (cwV 2 hts (gV_G k1695 k1696 k1697 k13 k1698) rfl rfl rfl (by decide +kernel) ⟨Nat.le_of_ble_eq_true rfl, Nat.le_of_ble_eq_true rfl⟩) ⟨fun a U g mk q => by obtain ⟨q0, q1, qP, qK, qD⟩ := q; exact ⟨q0, q1, qP, va_K.moved (u := U) (U := U.calling g mk a) (Vm.Alike.refl U.vm) qK, qD⟩, va_recv hKc hPc (ci := 10) (q0 := 0) rfl rfl, fun U hU hW => ⟨rfl, by rw [hU], by rw [hU]; exact hPc, va_K.moved hW.alike hKc, hDc.weaken (fun _ _ _ _ => trivial)⟩⟩ rfl rfl hl.1 rfl (lv_room (Nat.le_of_ble_eq_true rfl)) dL_law_1456 ⟨Nat.le_of_ble_eq_true rfl, Nat.le_of_ble_eq_true rfl⟩) hS (fun q _ h => hFc q h) hFc (fun r102 u t H1 locs ht hvm hw hB hz1 hk1 hS => ?_)
  obtain ⟨hP1, hK1, hD1⟩ := hB
  rw [ht] at hP1
  have hK1 := va_K.moved hvm.symm hK1
  try dsimp only at hw
  obtain ⟨hP, hD⟩ := va_join (wr := []) (w1 := [(y0, .inr (10, [.int 1, .ref m1, .int 0, .int 0, .int 0, .int (-1), .int 0, .int 0, .ref m8, .int 0, .int 0, .ref m11, .ref m12, .ref m13, .ref m14, .ref m15, .ref m16, .ref m17, .ref m18, .ref m19, .ref m20, .ref m21, .int 0, .int 0, .int 0, .ref m25, .ref m26, .int 0, .int 0, .ref m29, .ref m30, .ref m31, .ref m32, .int 0, .ref m34, .ref m35, .ref m36, .ref m37, .int 0, .int 0, .ref m40, .ref m41, .ref m42, .ref m43, .ref m44, .ref m45, .ref m46, .ref m47, .ref m48, .ref m49, .ref m50, .ref m51, .ref m52]))]) hP hD [0, 1] [] rfl rfl (by decide) (by decide) hk1 hFc hP1 hD1
  have hK := hK.app hK1
  generalize H1 = H at hP hS ⊢
  have hP : va_P (dC, dI) vwCl [(y0, .inr (10, [.int 1, .ref m1, .int 0, .int 0, .int 0, .int (-1), .int 0, .int 0, .ref m8, .int 0, .int 0, .ref m11, .ref m12, .ref m13, .ref m14, .ref m15, .ref m16, .ref m17, .ref m18, .ref m19, .ref m20, .ref m21, .int 0, .int 0, .int 0, .ref m25, .ref m26, .int 0, .int 0, .ref m29, .ref m30, .ref m31, .ref m32, .int 0, .ref m34, .ref m35, .ref m36, .ref m37, .int 0, .int 0, .ref m40, .ref m41, .ref m42, .ref m43, .ref m44, .ref m45, .ref m46, .ref m47, .ref m48, .ref m49, .ref m50, .ref m51, .ref m52]))] H := hP
  have hD : va_D A [(y0, .inr (10, [.int 1, .ref m1, .int 0, .int 0, .int 0, .int (-1), .int 0, .int 0, .ref m8, .int 0, .int 0, .ref m11, .ref m12, .ref m13, .ref m14, .ref m15, .ref m16, .ref m17, .ref m18, .ref m19, .ref m20, .ref m21, .int 0, .int 0, .int 0, .ref m25, .ref m26, .int 0, .int 0, .ref m29, .ref m30, .ref m31, .ref m32, .int 0, .ref m34, .ref m35, .ref m36, .ref m37, .int 0, .int 0, .ref m40, .ref m41, .ref m42, .ref m43, .ref m44, .ref m45, .ref m46, .ref m47, .ref m48, .ref m49, .ref m50, .ref m51, .ref m52]))] := hD
  have hK : va_K (dC, dI) vwCl [(d53, .int), (crf, .int), (co, .long)] s := hK
  refine W.widen (k := 6561) (n := 850836) (by omega) (by omega) ?_
  obtain rfl : r102 = 0 := hw
  refine lv_istore (lv' := [(6, .int 0), (5, .int 1), (4, .int 0), (3, .ref o0), (2, .ref y0), (1, .ref x0), (0, .ref b)]) hx hb dL_law_1459 hl (by decide) rfl (fun ls hl => ?_)
  refine lv_aload_n hx hb dL_law_1461 rfl (lv_at hl 4 rfl) ?_
  have hPc := hP.sub (ws' := [(y0, .inr (10, [.int 1, .ref m1, .int 0, .int 0, .int 0, .int (-1), .int 0, .int 0, .ref m8, .int 0, .int 0, .ref m11, .ref m12, .ref m13, .ref m14, .ref m15, .ref m16, .ref m17, .ref m18, .ref m19, .ref m20, .ref m21, .int 0, .int 0, .int 0, .ref m25, .ref m26, .int 0, .int 0, .ref m29, .ref m30, .ref m31, .ref m32, .int 0, .ref m34, .ref m35, .ref m36, .ref m37, .int 0, .int 0, .ref m40, .ref m41, .ref m42, .ref m43, .ref m44, .ref m45, .ref m46, .ref m47, .ref m48, .ref m49, .ref m50, .ref m51, .ref m52]))]) [0] rfl
  have hDc := hD.sub (ws' := [(y0, .inr (10, [.int 1, .ref m1, .int 0, .int 0, .int 0, .int (-1), .int 0, .int 0, .ref m8, .int 0, .int 0, .ref m11, .ref m12, .ref m13, .ref m14, .ref m15, .ref m16, .ref m17, .ref m18, .ref m19, .ref m20, .ref m21, .int 0, .int 0, .int 0, .ref m25, .ref m26, .int 0, .int 0, .ref m29, .ref m30, .ref m31, .ref m32, .int 0, .ref m34, .ref m35, .ref m36, .ref m37, .int 0, .int 0, .ref m40, .ref m41, .ref m42, .ref m43, .ref m44, .ref m45, .ref m46, .ref m47, .ref m48, .ref m49, .ref m50, .ref m51, .ref m52]))]) [0] (by decide) rfl
  have hKc := hK.sub (tys' := []) [] rfl
  have hFc := va_free (wc := [(y0, .inr (10, [.int 1, .ref m1, .int 0, .int 0, .int 0, .int (-1), .int 0, .int 0, .ref m8, .int 0, .int 0, .ref m11, .ref m12, .ref m13, .ref m14, .ref m15, .ref m16, .ref m17, .ref m18, .ref m19, .ref m20, .ref m21, .int 0, .int 0, .int 0, .ref m25, .ref m26, .int 0, .int 0, .ref m29, .ref m30, .ref m31, .ref m32, .int 0, .ref m34, .ref m35, .ref m36, .ref m37, .int 0, .int 0, .ref m40, .ref m41, .ref m42, .ref m43, .ref m44, .ref m45, .ref m46, .ref m47, .ref m48, .ref m49, .ref m50, .ref m51, .ref m52]))]) hD hS hA [0] rfl
  refine va_calli (va_runV (As := []) (rest := []) ⟨hx, hb, hml, hown, hts⟩ (m_thrown l dC dI H.size (y0) (1) (m1) (0) (0) (0) ((-1)) (0) (0) (m8) (0) (0) (m11) (m12) (m13) (m14) (m15) (m16) (m17) (m18) (m19) (m20) (m21) (0) (0) (0) (m25) (m26) (0) (0) (m29) (m30) (m31) (m32) (0) (m34) (m35) (m36) (m37) (0) (0) (m40) (m41) (m42) (m43) (m44) (m45) (m46) (m47) (m48) (m49) (m50) (m51) (m52)) (cwV 0 hts (gV_G k1327 k1328 k1329 k13 k1330) rfl rfl rfl (by decide +kernel) ⟨Nat.le_of_ble_eq_true rfl, Nat.le_of_ble_eq_true rfl⟩) ⟨fun a U g mk q => by obtain ⟨q0, q1, qP, qK, qD⟩ := q; exact ⟨q0, q1, qP, va_K.moved (u := U) (U := U.calling g mk a) (Vm.Alike.refl U.vm) qK, qD⟩, va_recv hKc hPc (ci := 10) (q0 := 0) rfl rfl, fun U hU hW => ⟨rfl, by rw [hU], by rw [hU]; exact hPc, va_K.moved hW.alike hKc, hDc.weaken (fun _ _ _ _ => trivial)⟩⟩ rfl rfl hl.1 rfl (lv_room (Nat.le_of_ble_eq_true rfl)) dL_law_1462 ⟨Nat.le_of_ble_eq_true rfl, Nat.le_of_ble_eq_true rfl⟩) hS (fun q _ h => hFc q h) hFc (fun r103 u t H1 locs ht hvm hw hB hz1 hk1 hS => ?_)
  obtain ⟨hP1, hK1, hD1⟩ := hB
  rw [ht] at hP1
  have hK1 := va_K.moved hvm.symm hK1
  try dsimp only at hw
  obtain ⟨hP, hD⟩ := va_join (wr := []) (w1 := []) hP hD [0] [] rfl rfl (by decide) (by decide) hk1 hFc hP1 hD1
  have hK := hK.app hK1
  generalize H1 = H at hP hS ⊢
  have hP : va_P (dC, dI) vwCl [] H := hP
  have hD : va_D A [] := hD
  have hK : va_K (dC, dI) vwCl [(d53, .int), (crf, .int), (co, .long)] s := hK
  refine W.widen (k := 6561) (n := 850836) (by omega) (by omega) ?_
  obtain rfl : r103 = 1 := hw
  refine lv_iload hx hb dL_law_1465 (lv_at hl 1 rfl) ?_
  refine lv_icmp_eq (tgt := 1472) hx hb dL_law_1467 (by decide) (fun _ => ?_) (fun c9 => absurd (by decide +kernel) c9)
  refine lv_iload hx hb dL_law_1472 (lv_at hl 1 rfl) ?_
  refine lv_if_ne (tgt := 1489) hx hb dL_law_1474 (by decide) (fun _ => ?_) (fun c9 => absurd c9 (by decide +kernel))
  refine lv_goto (tgt := 2301) hx hb dL_law_1489 (by decide) ?_
  refine W.widen (k := 6567) (n := 850872) (by omega) (by omega) ?_
  exact hend H locs ls hS (lv_sub hl [2, 6] rfl)
set_option maxHeartbeats 4000000 in
set_option maxRecDepth 100000 in
theorem lc_distance {p : Program} {l : Launch} {e : Env} {s : State} {m : MethodId} {below : List Frame} {meth : Method} {c : Code} {dC : Nat → ClassId} {dI : Nat → Nat → Nat} {A : Nat → Prop} {b : Nat} {xs : Nat → Int32} (C0 : lx_C p l s m c A b xs) {x0 w1 w6 w8 w15 w22 w26 w31 w35 w40 w48 w50 w52 y0 m1 m8 m11 m12 m13 m14 m15 m16 m17 m18 m19 m20 m21 m25 m26 m29 m30 m31 m32 m34 m35 m36 m37 m40 m41 m42 m43 m44 m45 m46 m47 m48 m49 m50 m51 m52 o0 : Nat} {d53 crf co : ClassId}  {v1 : Int32} {v2 : Int32} (hs1 : xs (1 : Int32).toNatClampNeg = v1) (hs2 : xs (2 : Int32).toNatClampNeg = v2)
    (hend : ∀ (H : Heap) (locs : List Loc) (ls : Array Slot), va_S A s.heap H locs → lv_has ls 7 [(4, .int 0), (0, .ref b)] → W p l e room_1 s m #[Value.ref b] below meth c H locs 6567 850872 (lw_Z below #[Value.ref b] s) (F0 m 2301 ls []))
    {H : Heap} {locs : List Loc} {ls : Array Slot} (hP : va_P (dC, dI) vwCl [(x0, .inr (9, [.ref w1, .ref w6, .int 0, .ref w8, .ref w15, .int 0, .int 0, .ref w22, .ref w26, .ref w31, .ref w35, .ref w40, .ref w48, .ref w50, .ref w52])), (w52, .inl (d53, 3, .inl (fun _ => 0))), (y0, .inr (10, [.int 0, .ref m1, .int 0, .int 0, .int 0, .int (-1), .int 0, .int 0, .ref m8, .int 0, .int 0, .ref m11, .ref m12, .ref m13, .ref m14, .ref m15, .ref m16, .ref m17, .ref m18, .ref m19, .ref m20, .ref m21, .int 0, .int 0, .int 0, .ref m25, .ref m26, .int 0, .int 0, .ref m29, .ref m30, .ref m31, .ref m32, .int 0, .ref m34, .ref m35, .ref m36, .ref m37, .int 0, .int 0, .ref m40, .ref m41, .ref m42, .ref m43, .ref m44, .ref m45, .ref m46, .ref m47, .ref m48, .ref m49, .ref m50, .ref m51, .ref m52])), (m1, .inl (crf, 3, .inl (fun _ => 0))), (o0, .inl (co, 1, .inr (.inl (fun _ => 0))))] H) (hD : va_D A [(x0, .inr (9, [.ref w1, .ref w6, .int 0, .ref w8, .ref w15, .int 0, .int 0, .ref w22, .ref w26, .ref w31, .ref w35, .ref w40, .ref w48, .ref w50, .ref w52])), (w52, .inl (d53, 3, .inl (fun _ => 0))), (y0, .inr (10, [.int 0, .ref m1, .int 0, .int 0, .int 0, .int (-1), .int 0, .int 0, .ref m8, .int 0, .int 0, .ref m11, .ref m12, .ref m13, .ref m14, .ref m15, .ref m16, .ref m17, .ref m18, .ref m19, .ref m20, .ref m21, .int 0, .int 0, .int 0, .ref m25, .ref m26, .int 0, .int 0, .ref m29, .ref m30, .ref m31, .ref m32, .int 0, .ref m34, .ref m35, .ref m36, .ref m37, .int 0, .int 0, .ref m40, .ref m41, .ref m42, .ref m43, .ref m44, .ref m45, .ref m46, .ref m47, .ref m48, .ref m49, .ref m50, .ref m51, .ref m52])), (m1, .inl (crf, 3, .inl (fun _ => 0))), (o0, .inl (co, 1, .inr (.inl (fun _ => 0))))]) (hK : va_K (dC, dI) vwCl [(d53, .int), (crf, .int), (co, .long)] s) (hS : va_S A s.heap H locs) (hl : lv_has ls 7 [(4, .int 0), (3, .ref o0), (2, .ref y0), (1, .ref x0), (0, .ref b)]) : W p l e room_1 s m #[Value.ref b] below meth c H locs 6559 850824 (lw_Z below #[Value.ref b] s) (F0 m 1492 ls []) := by
  obtain ⟨hfl, hx, hb, hml, hown, hts, hX, hbl, hbA, hA, hEx, hNc⟩ := C0
  refine lv_aload_n hx hb dL_law_1492 rfl (lv_at hl 3 rfl) ?_
  refine lv_aload_n hx hb dL_law_1493 rfl (lv_at hl 4 rfl) ?_
  refine lv_iload hx hb dL_law_1494 (lv_at hl 0 rfl) ?_
  refine lv_iconst (v := 1) hx hb dL_law_1496 (by decide) ?_
  refine lv_iadd hx hb dL_law_1497 ?_
  refine lv_topi (fun x9 ex9 => ?_)
  obtain rfl : x9 = 1 := ex9.trans (by decide +kernel)
  refine va_sld hx hb hX hbl hbA hS (by unfold vp_in; decide +kernel) dL_law_1498 ?_
  refine lv_topi (fun x9 ex9 => ?_)
  obtain rfl : v1 = x9 := (ex9.trans hs1).symm
  refine lv_aload_n hx hb dL_law_1499 rfl (lv_at hl 4 rfl) ?_
  refine lv_iload hx hb dL_law_1500 (lv_at hl 0 rfl) ?_
  refine lv_iconst (v := 2) hx hb dL_law_1502 (by decide) ?_
  refine lv_iadd hx hb dL_law_1503 ?_
  refine lv_topi (fun x9 ex9 => ?_)
  obtain rfl : x9 = 2 := ex9.trans (by decide +kernel)
  refine va_sld hx hb hX hbl hbA hS (by unfold vp_in; decide +kernel) dL_law_1504 ?_
  refine lv_topi (fun x9 ex9 => ?_)
  obtain rfl : v2 = x9 := (ex9.trans hs2).symm
  refine lv_aload_n hx hb dL_law_1505 rfl (lv_at hl 1 rfl) ?_
  have hPc := hP.sub (ws' := [(x0, .inr (9, [.ref w1, .ref w6, .int 0, .ref w8, .ref w15, .int 0, .int 0, .ref w22, .ref w26, .ref w31, .ref w35, .ref w40, .ref w48, .ref w50, .ref w52])), (w52, .inl (d53, 3, .inl (fun _ => 0))), (o0, .inl (co, 1, .inr (.inl (fun _ => 0))))]) [0, 1, 4] rfl
  have hDc := hD.sub (ws' := [(x0, .inr (9, [.ref w1, .ref w6, .int 0, .ref w8, .ref w15, .int 0, .int 0, .ref w22, .ref w26, .ref w31, .ref w35, .ref w40, .ref w48, .ref w50, .ref w52])), (w52, .inl (d53, 3, .inl (fun _ => 0))), (o0, .inl (co, 1, .inr (.inl (fun _ => 0))))]) [0, 1, 4] (by decide) rfl
  have hKc := hK.sub (tys' := [(d53, .int), (co, .long)]) [0, 2] rfl
  have hFc := va_free (wc := [(x0, .inr (9, [.ref w1, .ref w6, .int 0, .ref w8, .ref w15, .int 0, .int 0, .ref w22, .ref w26, .ref w31, .ref w35, .ref w40, .ref w48, .ref w50, .ref w52])), (w52, .inl (d53, 3, .inl (fun _ => 0))), (o0, .inl (co, 1, .inr (.inl (fun _ => 0))))]) hD hS hA [0, 1, 4] rfl
  refine va_calli (vx_runSW (hh := [(0, 10, 13, 20)]) (As := [.ref x0, .int v1, .int v2, .ref o0]) (rest := []) ⟨hx, hb, hml, hown, hts⟩ (w_distance l hfl dC dI H.size (x0) (w1) (w6) (w8) (w15) (w22) (w26) (w31) (w35) (w40) (w48) (w50) (w52) (d53) (o0) (co) (v1) (v2)) (vx_cwSW 4 hts (gW_G k1019 k1020 k0 k1021) rfl rfl rfl (by decide +kernel) ⟨Nat.le_of_ble_eq_true rfl, Nat.le_of_ble_eq_true rfl⟩) ⟨fun a U g mk q => by obtain ⟨q0, q1, qP, qK, qD, qE⟩ := q; exact ⟨q0, q1, qP, va_K.moved (u := U) (U := U.calling g mk a) (Vm.Alike.refl U.vm) qK, qD, xX_call qE⟩, fun U hU hW => ⟨rfl, by rw [hU], by rw [hU]; exact hPc, va_K.moved hW.alike hKc, hDc.weaken (fun _ _ _ _ => trivial), xX_at hEx hS (fun q h => hFc q h) hU hW⟩⟩ rfl rfl hl.1 rfl (lv_room (Nat.le_of_ble_eq_true rfl)) dL_law_1506 ⟨Nat.le_of_ble_eq_true rfl, Nat.le_of_ble_eq_true rfl⟩) hS (fun q _ h => hFc q h) hFc (fun r101 u t H1 locs ht hvm hw hB hz1 hk1 hS => ?_)
  obtain ⟨hP1, hK1, hD1⟩ := hB
  rw [ht] at hP1
  have hK1 := va_K.moved hvm.symm hK1
  try dsimp only at hw
  obtain ⟨hP, hD⟩ := va_join (wr := [(y0, .inr (10, [.int 0, .ref m1, .int 0, .int 0, .int 0, .int (-1), .int 0, .int 0, .ref m8, .int 0, .int 0, .ref m11, .ref m12, .ref m13, .ref m14, .ref m15, .ref m16, .ref m17, .ref m18, .ref m19, .ref m20, .ref m21, .int 0, .int 0, .int 0, .ref m25, .ref m26, .int 0, .int 0, .ref m29, .ref m30, .ref m31, .ref m32, .int 0, .ref m34, .ref m35, .ref m36, .ref m37, .int 0, .int 0, .ref m40, .ref m41, .ref m42, .ref m43, .ref m44, .ref m45, .ref m46, .ref m47, .ref m48, .ref m49, .ref m50, .ref m51, .ref m52])), (m1, .inl (crf, 3, .inl (fun _ => 0)))]) (w1 := []) hP hD [0, 1, 4] [2, 3] rfl rfl (by decide) (by decide) hk1 hFc hP1 hD1
  have hK := hK.app hK1
  generalize H1 = H at hP hS ⊢
  have hP : va_P (dC, dI) vwCl [(y0, .inr (10, [.int 0, .ref m1, .int 0, .int 0, .int 0, .int (-1), .int 0, .int 0, .ref m8, .int 0, .int 0, .ref m11, .ref m12, .ref m13, .ref m14, .ref m15, .ref m16, .ref m17, .ref m18, .ref m19, .ref m20, .ref m21, .int 0, .int 0, .int 0, .ref m25, .ref m26, .int 0, .int 0, .ref m29, .ref m30, .ref m31, .ref m32, .int 0, .ref m34, .ref m35, .ref m36, .ref m37, .int 0, .int 0, .ref m40, .ref m41, .ref m42, .ref m43, .ref m44, .ref m45, .ref m46, .ref m47, .ref m48, .ref m49, .ref m50, .ref m51, .ref m52])), (m1, .inl (crf, 3, .inl (fun _ => 0)))] H := hP
  have hD : va_D A [(y0, .inr (10, [.int 0, .ref m1, .int 0, .int 0, .int 0, .int (-1), .int 0, .int 0, .ref m8, .int 0, .int 0, .ref m11, .ref m12, .ref m13, .ref m14, .ref m15, .ref m16, .ref m17, .ref m18, .ref m19, .ref m20, .ref m21, .int 0, .int 0, .int 0, .ref m25, .ref m26, .int 0, .int 0, .ref m29, .ref m30, .ref m31, .ref m32, .int 0, .ref m34, .ref m35, .ref m36, .ref m37, .int 0, .int 0, .ref m40, .ref m41, .ref m42, .ref m43, .ref m44, .ref m45, .ref m46, .ref m47, .ref m48, .ref m49, .ref m50, .ref m51, .ref m52])), (m1, .inl (crf, 3, .inl (fun _ => 0)))] := hD
  have hK : va_K (dC, dI) vwCl [(d53, .int), (crf, .int), (co, .long)] s := hK
  refine W.widen (k := 6561) (n := 850836) (by omega) (by omega) ?_
  obtain rfl : r101 = 1 := hw
  refine lv_istore (lv' := [(5, .int 1), (4, .int 0), (3, .ref o0), (2, .ref y0), (1, .ref x0), (0, .ref b)]) hx hb dL_law_1509 hl (by decide) rfl (fun ls hl => ?_)
  refine lv_aload_n hx hb dL_law_1511 rfl (lv_at hl 3 rfl) ?_
  refine lv_aload_n hx hb dL_law_1512 rfl (lv_at hl 5 rfl) ?_
  refine lv_iload hx hb dL_law_1513 (lv_at hl 1 rfl) ?_
  refine lv_iconst (v := 1) hx hb dL_law_1515 (by decide) ?_
  refine lv_iadd hx hb dL_law_1516 ?_
  refine lv_topi (fun x9 ex9 => ?_)
  obtain rfl : x9 = 1 := ex9.trans (by decide +kernel)
  refine va_sld hx hb hX hbl hbA hS (by unfold vp_in; decide +kernel) dL_law_1517 ?_
  refine lv_topi (fun x9 ex9 => ?_)
  obtain rfl : v1 = x9 := (ex9.trans hs1).symm
  refine lv_aload_n hx hb dL_law_1518 rfl (lv_at hl 5 rfl) ?_
  refine lv_iload hx hb dL_law_1519 (lv_at hl 1 rfl) ?_
  refine lv_iconst (v := 2) hx hb dL_law_1521 (by decide) ?_
  refine lv_iadd hx hb dL_law_1522 ?_
  refine lv_topi (fun x9 ex9 => ?_)
  obtain rfl : x9 = 2 := ex9.trans (by decide +kernel)
  refine va_sld hx hb hX hbl hbA hS (by unfold vp_in; decide +kernel) dL_law_1523 ?_
  refine lv_topi (fun x9 ex9 => ?_)
  obtain rfl : v2 = x9 := (ex9.trans hs2).symm
  have hPc := hP.sub (ws' := [(y0, .inr (10, [.int 0, .ref m1, .int 0, .int 0, .int 0, .int (-1), .int 0, .int 0, .ref m8, .int 0, .int 0, .ref m11, .ref m12, .ref m13, .ref m14, .ref m15, .ref m16, .ref m17, .ref m18, .ref m19, .ref m20, .ref m21, .int 0, .int 0, .int 0, .ref m25, .ref m26, .int 0, .int 0, .ref m29, .ref m30, .ref m31, .ref m32, .int 0, .ref m34, .ref m35, .ref m36, .ref m37, .int 0, .int 0, .ref m40, .ref m41, .ref m42, .ref m43, .ref m44, .ref m45, .ref m46, .ref m47, .ref m48, .ref m49, .ref m50, .ref m51, .ref m52])), (m1, .inl (crf, 3, .inl (fun _ => 0)))]) [0, 1] rfl
  have hDc := hD.sub (ws' := [(y0, .inr (10, [.int 0, .ref m1, .int 0, .int 0, .int 0, .int (-1), .int 0, .int 0, .ref m8, .int 0, .int 0, .ref m11, .ref m12, .ref m13, .ref m14, .ref m15, .ref m16, .ref m17, .ref m18, .ref m19, .ref m20, .ref m21, .int 0, .int 0, .int 0, .ref m25, .ref m26, .int 0, .int 0, .ref m29, .ref m30, .ref m31, .ref m32, .int 0, .ref m34, .ref m35, .ref m36, .ref m37, .int 0, .int 0, .ref m40, .ref m41, .ref m42, .ref m43, .ref m44, .ref m45, .ref m46, .ref m47, .ref m48, .ref m49, .ref m50, .ref m51, .ref m52])), (m1, .inl (crf, 3, .inl (fun _ => 0)))]) [0, 1] (by decide) rfl
  have hKc := hK.sub (tys' := [(crf, .int)]) [1] rfl
  have hFc := va_free (wc := [(y0, .inr (10, [.int 0, .ref m1, .int 0, .int 0, .int 0, .int (-1), .int 0, .int 0, .ref m8, .int 0, .int 0, .ref m11, .ref m12, .ref m13, .ref m14, .ref m15, .ref m16, .ref m17, .ref m18, .ref m19, .ref m20, .ref m21, .int 0, .int 0, .int 0, .ref m25, .ref m26, .int 0, .int 0, .ref m29, .ref m30, .ref m31, .ref m32, .int 0, .ref m34, .ref m35, .ref m36, .ref m37, .int 0, .int 0, .ref m40, .ref m41, .ref m42, .ref m43, .ref m44, .ref m45, .ref m46, .ref m47, .ref m48, .ref m49, .ref m50, .ref m51, .ref m52])), (m1, .inl (crf, 3, .inl (fun _ => 0)))]) hD hS hA [0, 1] rfl
  refine va_calli (va_runV (As := [.int v1, .int v2]) (rest := []) ⟨hx, hb, hml, hown, hts⟩ (m_distance l dC dI H.size (y0) (m1) (m8) (m11) (m12) (m13) (m14) (m15) (m16) (m17) (m18) (m19) (m20) (m21) (m25) (m26) (m29) (m30) (m31) (m32) (m34) (m35) (m36) (m37) (m40) (m41) (m42) (m43) (m44) (m45) (m46) (m47) (m48) (m49) (m50) (m51) (m52) (crf) (v1) (v2)) (cwV 2 hts (gV_G k1699 k1700 k1701 k13 k1702) rfl rfl rfl (by decide +kernel) ⟨Nat.le_of_ble_eq_true rfl, Nat.le_of_ble_eq_true rfl⟩) ⟨fun a U g mk q => by obtain ⟨q0, q1, qP, qK, qD⟩ := q; exact ⟨q0, q1, qP, va_K.moved (u := U) (U := U.calling g mk a) (Vm.Alike.refl U.vm) qK, qD⟩, va_recv hKc hPc (ci := 10) (q0 := 0) rfl rfl, fun U hU hW => ⟨rfl, by rw [hU], by rw [hU]; exact hPc, va_K.moved hW.alike hKc, hDc.weaken (fun _ _ _ _ => trivial)⟩⟩ rfl rfl hl.1 rfl (lv_room (Nat.le_of_ble_eq_true rfl)) dL_law_1524 ⟨Nat.le_of_ble_eq_true rfl, Nat.le_of_ble_eq_true rfl⟩) hS (fun q _ h => hFc q h) hFc (fun r102 u t H1 locs ht hvm hw hB hz1 hk1 hS => ?_)
  obtain ⟨hP1, hK1, hD1⟩ := hB
  rw [ht] at hP1
  have hK1 := va_K.moved hvm.symm hK1
  try dsimp only at hw
  obtain ⟨hP, hD⟩ := va_join (wr := []) (w1 := [(y0, .inr (10, [.int 1, .ref m1, .int 0, .int 0, .int 0, .int (-1), .int 0, .int 0, .ref m8, .int 0, .int 0, .ref m11, .ref m12, .ref m13, .ref m14, .ref m15, .ref m16, .ref m17, .ref m18, .ref m19, .ref m20, .ref m21, .int 0, .int 0, .int 0, .ref m25, .ref m26, .int 0, .int 0, .ref m29, .ref m30, .ref m31, .ref m32, .int 0, .ref m34, .ref m35, .ref m36, .ref m37, .int 0, .int 0, .ref m40, .ref m41, .ref m42, .ref m43, .ref m44, .ref m45, .ref m46, .ref m47, .ref m48, .ref m49, .ref m50, .ref m51, .ref m52]))]) hP hD [0, 1] [] rfl rfl (by decide) (by decide) hk1 hFc hP1 hD1
  have hK := hK.app hK1
  generalize H1 = H at hP hS ⊢
  have hP : va_P (dC, dI) vwCl [(y0, .inr (10, [.int 1, .ref m1, .int 0, .int 0, .int 0, .int (-1), .int 0, .int 0, .ref m8, .int 0, .int 0, .ref m11, .ref m12, .ref m13, .ref m14, .ref m15, .ref m16, .ref m17, .ref m18, .ref m19, .ref m20, .ref m21, .int 0, .int 0, .int 0, .ref m25, .ref m26, .int 0, .int 0, .ref m29, .ref m30, .ref m31, .ref m32, .int 0, .ref m34, .ref m35, .ref m36, .ref m37, .int 0, .int 0, .ref m40, .ref m41, .ref m42, .ref m43, .ref m44, .ref m45, .ref m46, .ref m47, .ref m48, .ref m49, .ref m50, .ref m51, .ref m52]))] H := hP
  have hD : va_D A [(y0, .inr (10, [.int 1, .ref m1, .int 0, .int 0, .int 0, .int (-1), .int 0, .int 0, .ref m8, .int 0, .int 0, .ref m11, .ref m12, .ref m13, .ref m14, .ref m15, .ref m16, .ref m17, .ref m18, .ref m19, .ref m20, .ref m21, .int 0, .int 0, .int 0, .ref m25, .ref m26, .int 0, .int 0, .ref m29, .ref m30, .ref m31, .ref m32, .int 0, .ref m34, .ref m35, .ref m36, .ref m37, .int 0, .int 0, .ref m40, .ref m41, .ref m42, .ref m43, .ref m44, .ref m45, .ref m46, .ref m47, .ref m48, .ref m49, .ref m50, .ref m51, .ref m52]))] := hD
  have hK : va_K (dC, dI) vwCl [(d53, .int), (crf, .int), (co, .long)] s := hK
  refine W.widen (k := 6561) (n := 850836) (by omega) (by omega) ?_
  obtain rfl : r102 = 0 := hw
  refine lv_istore (lv' := [(6, .int 0), (5, .int 1), (4, .int 0), (3, .ref o0), (2, .ref y0), (1, .ref x0), (0, .ref b)]) hx hb dL_law_1527 hl (by decide) rfl (fun ls hl => ?_)
  refine lv_aload_n hx hb dL_law_1529 rfl (lv_at hl 4 rfl) ?_
  have hPc := hP.sub (ws' := [(y0, .inr (10, [.int 1, .ref m1, .int 0, .int 0, .int 0, .int (-1), .int 0, .int 0, .ref m8, .int 0, .int 0, .ref m11, .ref m12, .ref m13, .ref m14, .ref m15, .ref m16, .ref m17, .ref m18, .ref m19, .ref m20, .ref m21, .int 0, .int 0, .int 0, .ref m25, .ref m26, .int 0, .int 0, .ref m29, .ref m30, .ref m31, .ref m32, .int 0, .ref m34, .ref m35, .ref m36, .ref m37, .int 0, .int 0, .ref m40, .ref m41, .ref m42, .ref m43, .ref m44, .ref m45, .ref m46, .ref m47, .ref m48, .ref m49, .ref m50, .ref m51, .ref m52]))]) [0] rfl
  have hDc := hD.sub (ws' := [(y0, .inr (10, [.int 1, .ref m1, .int 0, .int 0, .int 0, .int (-1), .int 0, .int 0, .ref m8, .int 0, .int 0, .ref m11, .ref m12, .ref m13, .ref m14, .ref m15, .ref m16, .ref m17, .ref m18, .ref m19, .ref m20, .ref m21, .int 0, .int 0, .int 0, .ref m25, .ref m26, .int 0, .int 0, .ref m29, .ref m30, .ref m31, .ref m32, .int 0, .ref m34, .ref m35, .ref m36, .ref m37, .int 0, .int 0, .ref m40, .ref m41, .ref m42, .ref m43, .ref m44, .ref m45, .ref m46, .ref m47, .ref m48, .ref m49, .ref m50, .ref m51, .ref m52]))]) [0] (by decide) rfl
  have hKc := hK.sub (tys' := []) [] rfl
  have hFc := va_free (wc := [(y0, .inr (10, [.int 1, .ref m1, .int 0, .int 0, .int 0, .int (-1), .int 0, .int 0, .ref m8, .int 0, .int 0, .ref m11, .ref m12, .ref m13, .ref m14, .ref m15, .ref m16, .ref m17, .ref m18, .ref m19, .ref m20, .ref m21, .int 0, .int 0, .int 0, .ref m25, .ref m26, .int 0, .int 0, .ref m29, .ref m30, .ref m31, .ref m32, .int 0, .ref m34, .ref m35, .ref m36, .ref m37, .int 0, .int 0, .ref m40, .ref m41, .ref m42, .ref m43, .ref m44, .ref m45, .ref m46, .ref m47, .ref m48, .ref m49, .ref m50, .ref m51, .ref m52]))]) hD hS hA [0] rfl
  refine va_calli (va_runV (As := []) (rest := []) ⟨hx, hb, hml, hown, hts⟩ (m_thrown l dC dI H.size (y0) (1) (m1) (0) (0) (0) ((-1)) (0) (0) (m8) (0) (0) (m11) (m12) (m13) (m14) (m15) (m16) (m17) (m18) (m19) (m20) (m21) (0) (0) (0) (m25) (m26) (0) (0) (m29) (m30) (m31) (m32) (0) (m34) (m35) (m36) (m37) (0) (0) (m40) (m41) (m42) (m43) (m44) (m45) (m46) (m47) (m48) (m49) (m50) (m51) (m52)) (cwV 0 hts (gV_G k1327 k1328 k1329 k13 k1330) rfl rfl rfl (by decide +kernel) ⟨Nat.le_of_ble_eq_true rfl, Nat.le_of_ble_eq_true rfl⟩) ⟨fun a U g mk q => by obtain ⟨q0, q1, qP, qK, qD⟩ := q; exact ⟨q0, q1, qP, va_K.moved (u := U) (U := U.calling g mk a) (Vm.Alike.refl U.vm) qK, qD⟩, va_recv hKc hPc (ci := 10) (q0 := 0) rfl rfl, fun U hU hW => ⟨rfl, by rw [hU], by rw [hU]; exact hPc, va_K.moved hW.alike hKc, hDc.weaken (fun _ _ _ _ => trivial)⟩⟩ rfl rfl hl.1 rfl (lv_room (Nat.le_of_ble_eq_true rfl)) dL_law_1530 ⟨Nat.le_of_ble_eq_true rfl, Nat.le_of_ble_eq_true rfl⟩) hS (fun q _ h => hFc q h) hFc (fun r103 u t H1 locs ht hvm hw hB hz1 hk1 hS => ?_)
  obtain ⟨hP1, hK1, hD1⟩ := hB
  rw [ht] at hP1
  have hK1 := va_K.moved hvm.symm hK1
  try dsimp only at hw
  obtain ⟨hP, hD⟩ := va_join (wr := []) (w1 := []) hP hD [0] [] rfl rfl (by decide) (by decide) hk1 hFc hP1 hD1
  have hK := hK.app hK1
  generalize H1 = H at hP hS ⊢
  have hP : va_P (dC, dI) vwCl [] H := hP
  have hD : va_D A [] := hD
  have hK : va_K (dC, dI) vwCl [(d53, .int), (crf, .int), (co, .long)] s := hK
  refine W.widen (k := 6561) (n := 850836) (by omega) (by omega) ?_
  obtain rfl : r103 = 1 := hw
  refine lv_iload hx hb dL_law_1533 (lv_at hl 1 rfl) ?_
  refine lv_icmp_eq (tgt := 1540) hx hb dL_law_1535 (by decide) (fun _ => ?_) (fun c9 => absurd (by decide +kernel) c9)
  refine lv_iload hx hb dL_law_1540 (lv_at hl 1 rfl) ?_
  refine lv_if_ne (tgt := 1557) hx hb dL_law_1542 (by decide) (fun _ => ?_) (fun c9 => absurd c9 (by decide +kernel))
  refine lv_goto (tgt := 2301) hx hb dL_law_1557 (by decide) ?_
  refine W.widen (k := 6567) (n := 850872) (by omega) (by omega) ?_
  exact hend H locs ls hS (lv_sub hl [2, 6] rfl)
set_option maxHeartbeats 4000000 in
set_option maxRecDepth 100000 in
theorem lc_nearest {p : Program} {l : Launch} {e : Env} {s : State} {m : MethodId} {below : List Frame} {meth : Method} {c : Code} {dC : Nat → ClassId} {dI : Nat → Nat → Nat} {A : Nat → Prop} {b : Nat} {xs : Nat → Int32} (C0 : lx_C p l s m c A b xs) {x0 w1 w6 w8 w15 w22 w26 w31 w35 w40 w48 w50 w52 y0 m1 m8 m11 m12 m13 m14 m15 m16 m17 m18 m19 m20 m21 m25 m26 m29 m30 m31 m32 m34 m35 m36 m37 m40 m41 m42 m43 m44 m45 m46 m47 m48 m49 m50 m51 m52 o0 : Nat} {d53 crf co : ClassId}  {v1 : Int32} (hs1 : xs (1 : Int32).toNatClampNeg = v1)
    (hend : ∀ (H : Heap) (locs : List Loc) (ls : Array Slot), va_S A s.heap H locs → lv_has ls 7 [(4, .int 0), (0, .ref b)] → W p l e room_1 s m #[Value.ref b] below meth c H locs 6567 850872 (lw_Z below #[Value.ref b] s) (F0 m 2301 ls []))
    {H : Heap} {locs : List Loc} {ls : Array Slot} (hP : va_P (dC, dI) vwCl [(x0, .inr (9, [.ref w1, .ref w6, .int 0, .ref w8, .ref w15, .int 0, .int 0, .ref w22, .ref w26, .ref w31, .ref w35, .ref w40, .ref w48, .ref w50, .ref w52])), (w52, .inl (d53, 3, .inl (fun _ => 0))), (y0, .inr (10, [.int 0, .ref m1, .int 0, .int 0, .int 0, .int (-1), .int 0, .int 0, .ref m8, .int 0, .int 0, .ref m11, .ref m12, .ref m13, .ref m14, .ref m15, .ref m16, .ref m17, .ref m18, .ref m19, .ref m20, .ref m21, .int 0, .int 0, .int 0, .ref m25, .ref m26, .int 0, .int 0, .ref m29, .ref m30, .ref m31, .ref m32, .int 0, .ref m34, .ref m35, .ref m36, .ref m37, .int 0, .int 0, .ref m40, .ref m41, .ref m42, .ref m43, .ref m44, .ref m45, .ref m46, .ref m47, .ref m48, .ref m49, .ref m50, .ref m51, .ref m52])), (m1, .inl (crf, 3, .inl (fun _ => 0))), (o0, .inl (co, 1, .inr (.inl (fun _ => 0))))] H) (hD : va_D A [(x0, .inr (9, [.ref w1, .ref w6, .int 0, .ref w8, .ref w15, .int 0, .int 0, .ref w22, .ref w26, .ref w31, .ref w35, .ref w40, .ref w48, .ref w50, .ref w52])), (w52, .inl (d53, 3, .inl (fun _ => 0))), (y0, .inr (10, [.int 0, .ref m1, .int 0, .int 0, .int 0, .int (-1), .int 0, .int 0, .ref m8, .int 0, .int 0, .ref m11, .ref m12, .ref m13, .ref m14, .ref m15, .ref m16, .ref m17, .ref m18, .ref m19, .ref m20, .ref m21, .int 0, .int 0, .int 0, .ref m25, .ref m26, .int 0, .int 0, .ref m29, .ref m30, .ref m31, .ref m32, .int 0, .ref m34, .ref m35, .ref m36, .ref m37, .int 0, .int 0, .ref m40, .ref m41, .ref m42, .ref m43, .ref m44, .ref m45, .ref m46, .ref m47, .ref m48, .ref m49, .ref m50, .ref m51, .ref m52])), (m1, .inl (crf, 3, .inl (fun _ => 0))), (o0, .inl (co, 1, .inr (.inl (fun _ => 0))))]) (hK : va_K (dC, dI) vwCl [(d53, .int), (crf, .int), (co, .long)] s) (hS : va_S A s.heap H locs) (hl : lv_has ls 7 [(4, .int 0), (3, .ref o0), (2, .ref y0), (1, .ref x0), (0, .ref b)]) : W p l e room_1 s m #[Value.ref b] below meth c H locs 6559 850824 (lw_Z below #[Value.ref b] s) (F0 m 1560 ls []) := by
  obtain ⟨hfl, hx, hb, hml, hown, hts, hX, hbl, hbA, hA, hEx, hNc⟩ := C0
  refine lv_aload_n hx hb dL_law_1560 rfl (lv_at hl 3 rfl) ?_
  refine lv_aload_n hx hb dL_law_1561 rfl (lv_at hl 4 rfl) ?_
  refine lv_iload hx hb dL_law_1562 (lv_at hl 0 rfl) ?_
  refine lv_iconst (v := 1) hx hb dL_law_1564 (by decide) ?_
  refine lv_iadd hx hb dL_law_1565 ?_
  refine lv_topi (fun x9 ex9 => ?_)
  obtain rfl : x9 = 1 := ex9.trans (by decide +kernel)
  refine va_sld hx hb hX hbl hbA hS (by unfold vp_in; decide +kernel) dL_law_1566 ?_
  refine lv_topi (fun x9 ex9 => ?_)
  obtain rfl : v1 = x9 := (ex9.trans hs1).symm
  refine lv_aload_n hx hb dL_law_1567 rfl (lv_at hl 1 rfl) ?_
  have hPc := hP.sub (ws' := [(x0, .inr (9, [.ref w1, .ref w6, .int 0, .ref w8, .ref w15, .int 0, .int 0, .ref w22, .ref w26, .ref w31, .ref w35, .ref w40, .ref w48, .ref w50, .ref w52])), (w52, .inl (d53, 3, .inl (fun _ => 0))), (o0, .inl (co, 1, .inr (.inl (fun _ => 0))))]) [0, 1, 4] rfl
  have hDc := hD.sub (ws' := [(x0, .inr (9, [.ref w1, .ref w6, .int 0, .ref w8, .ref w15, .int 0, .int 0, .ref w22, .ref w26, .ref w31, .ref w35, .ref w40, .ref w48, .ref w50, .ref w52])), (w52, .inl (d53, 3, .inl (fun _ => 0))), (o0, .inl (co, 1, .inr (.inl (fun _ => 0))))]) [0, 1, 4] (by decide) rfl
  have hKc := hK.sub (tys' := [(d53, .int), (co, .long)]) [0, 2] rfl
  have hFc := va_free (wc := [(x0, .inr (9, [.ref w1, .ref w6, .int 0, .ref w8, .ref w15, .int 0, .int 0, .ref w22, .ref w26, .ref w31, .ref w35, .ref w40, .ref w48, .ref w50, .ref w52])), (w52, .inl (d53, 3, .inl (fun _ => 0))), (o0, .inl (co, 1, .inr (.inl (fun _ => 0))))]) hD hS hA [0, 1, 4] rfl
  refine va_calli (vx_runSW (hh := [(0, 9, 12, 20)]) (As := [.ref x0, .int v1, .ref o0]) (rest := []) ⟨hx, hb, hml, hown, hts⟩ (w_nearest l hfl dC dI H.size (x0) (w1) (w6) (w8) (w15) (w22) (w26) (w31) (w35) (w40) (w48) (w50) (w52) (d53) (o0) (co) (v1)) (vx_cwSW 3 hts (gW_G k1030 k1031 k0 k1032) rfl rfl rfl (by decide +kernel) ⟨Nat.le_of_ble_eq_true rfl, Nat.le_of_ble_eq_true rfl⟩) ⟨fun a U g mk q => by obtain ⟨q0, q1, qP, qK, qD, qE⟩ := q; exact ⟨q0, q1, qP, va_K.moved (u := U) (U := U.calling g mk a) (Vm.Alike.refl U.vm) qK, qD, xX_call qE⟩, fun U hU hW => ⟨rfl, by rw [hU], by rw [hU]; exact hPc, va_K.moved hW.alike hKc, hDc.weaken (fun _ _ _ _ => trivial), xX_at hEx hS (fun q h => hFc q h) hU hW⟩⟩ rfl rfl hl.1 rfl (lv_room (Nat.le_of_ble_eq_true rfl)) dL_law_1568 ⟨Nat.le_of_ble_eq_true rfl, Nat.le_of_ble_eq_true rfl⟩) hS (fun q _ h => hFc q h) hFc (fun r101 u t H1 locs ht hvm hw hB hz1 hk1 hS => ?_)
  obtain ⟨hP1, hK1, hD1⟩ := hB
  rw [ht] at hP1
  have hK1 := va_K.moved hvm.symm hK1
  try dsimp only at hw
  obtain ⟨hP, hD⟩ := va_join (wr := [(y0, .inr (10, [.int 0, .ref m1, .int 0, .int 0, .int 0, .int (-1), .int 0, .int 0, .ref m8, .int 0, .int 0, .ref m11, .ref m12, .ref m13, .ref m14, .ref m15, .ref m16, .ref m17, .ref m18, .ref m19, .ref m20, .ref m21, .int 0, .int 0, .int 0, .ref m25, .ref m26, .int 0, .int 0, .ref m29, .ref m30, .ref m31, .ref m32, .int 0, .ref m34, .ref m35, .ref m36, .ref m37, .int 0, .int 0, .ref m40, .ref m41, .ref m42, .ref m43, .ref m44, .ref m45, .ref m46, .ref m47, .ref m48, .ref m49, .ref m50, .ref m51, .ref m52])), (m1, .inl (crf, 3, .inl (fun _ => 0)))]) (w1 := []) hP hD [0, 1, 4] [2, 3] rfl rfl (by decide) (by decide) hk1 hFc hP1 hD1
  have hK := hK.app hK1
  generalize H1 = H at hP hS ⊢
  have hP : va_P (dC, dI) vwCl [(y0, .inr (10, [.int 0, .ref m1, .int 0, .int 0, .int 0, .int (-1), .int 0, .int 0, .ref m8, .int 0, .int 0, .ref m11, .ref m12, .ref m13, .ref m14, .ref m15, .ref m16, .ref m17, .ref m18, .ref m19, .ref m20, .ref m21, .int 0, .int 0, .int 0, .ref m25, .ref m26, .int 0, .int 0, .ref m29, .ref m30, .ref m31, .ref m32, .int 0, .ref m34, .ref m35, .ref m36, .ref m37, .int 0, .int 0, .ref m40, .ref m41, .ref m42, .ref m43, .ref m44, .ref m45, .ref m46, .ref m47, .ref m48, .ref m49, .ref m50, .ref m51, .ref m52])), (m1, .inl (crf, 3, .inl (fun _ => 0)))] H := hP
  have hD : va_D A [(y0, .inr (10, [.int 0, .ref m1, .int 0, .int 0, .int 0, .int (-1), .int 0, .int 0, .ref m8, .int 0, .int 0, .ref m11, .ref m12, .ref m13, .ref m14, .ref m15, .ref m16, .ref m17, .ref m18, .ref m19, .ref m20, .ref m21, .int 0, .int 0, .int 0, .ref m25, .ref m26, .int 0, .int 0, .ref m29, .ref m30, .ref m31, .ref m32, .int 0, .ref m34, .ref m35, .ref m36, .ref m37, .int 0, .int 0, .ref m40, .ref m41, .ref m42, .ref m43, .ref m44, .ref m45, .ref m46, .ref m47, .ref m48, .ref m49, .ref m50, .ref m51, .ref m52])), (m1, .inl (crf, 3, .inl (fun _ => 0)))] := hD
  have hK : va_K (dC, dI) vwCl [(d53, .int), (crf, .int), (co, .long)] s := hK
  refine W.widen (k := 6561) (n := 850836) (by omega) (by omega) ?_
  obtain rfl : r101 = 1 := hw
  refine lv_istore (lv' := [(5, .int 1), (4, .int 0), (3, .ref o0), (2, .ref y0), (1, .ref x0), (0, .ref b)]) hx hb dL_law_1571 hl (by decide) rfl (fun ls hl => ?_)
  refine lv_aload_n hx hb dL_law_1573 rfl (lv_at hl 3 rfl) ?_
  refine lv_aload_n hx hb dL_law_1574 rfl (lv_at hl 5 rfl) ?_
  refine lv_iload hx hb dL_law_1575 (lv_at hl 1 rfl) ?_
  refine lv_iconst (v := 1) hx hb dL_law_1577 (by decide) ?_
  refine lv_iadd hx hb dL_law_1578 ?_
  refine lv_topi (fun x9 ex9 => ?_)
  obtain rfl : x9 = 1 := ex9.trans (by decide +kernel)
  refine va_sld hx hb hX hbl hbA hS (by unfold vp_in; decide +kernel) dL_law_1579 ?_
  refine lv_topi (fun x9 ex9 => ?_)
  obtain rfl : v1 = x9 := (ex9.trans hs1).symm
  have hPc := hP.sub (ws' := [(y0, .inr (10, [.int 0, .ref m1, .int 0, .int 0, .int 0, .int (-1), .int 0, .int 0, .ref m8, .int 0, .int 0, .ref m11, .ref m12, .ref m13, .ref m14, .ref m15, .ref m16, .ref m17, .ref m18, .ref m19, .ref m20, .ref m21, .int 0, .int 0, .int 0, .ref m25, .ref m26, .int 0, .int 0, .ref m29, .ref m30, .ref m31, .ref m32, .int 0, .ref m34, .ref m35, .ref m36, .ref m37, .int 0, .int 0, .ref m40, .ref m41, .ref m42, .ref m43, .ref m44, .ref m45, .ref m46, .ref m47, .ref m48, .ref m49, .ref m50, .ref m51, .ref m52])), (m1, .inl (crf, 3, .inl (fun _ => 0)))]) [0, 1] rfl
  have hDc := hD.sub (ws' := [(y0, .inr (10, [.int 0, .ref m1, .int 0, .int 0, .int 0, .int (-1), .int 0, .int 0, .ref m8, .int 0, .int 0, .ref m11, .ref m12, .ref m13, .ref m14, .ref m15, .ref m16, .ref m17, .ref m18, .ref m19, .ref m20, .ref m21, .int 0, .int 0, .int 0, .ref m25, .ref m26, .int 0, .int 0, .ref m29, .ref m30, .ref m31, .ref m32, .int 0, .ref m34, .ref m35, .ref m36, .ref m37, .int 0, .int 0, .ref m40, .ref m41, .ref m42, .ref m43, .ref m44, .ref m45, .ref m46, .ref m47, .ref m48, .ref m49, .ref m50, .ref m51, .ref m52])), (m1, .inl (crf, 3, .inl (fun _ => 0)))]) [0, 1] (by decide) rfl
  have hKc := hK.sub (tys' := [(crf, .int)]) [1] rfl
  have hFc := va_free (wc := [(y0, .inr (10, [.int 0, .ref m1, .int 0, .int 0, .int 0, .int (-1), .int 0, .int 0, .ref m8, .int 0, .int 0, .ref m11, .ref m12, .ref m13, .ref m14, .ref m15, .ref m16, .ref m17, .ref m18, .ref m19, .ref m20, .ref m21, .int 0, .int 0, .int 0, .ref m25, .ref m26, .int 0, .int 0, .ref m29, .ref m30, .ref m31, .ref m32, .int 0, .ref m34, .ref m35, .ref m36, .ref m37, .int 0, .int 0, .ref m40, .ref m41, .ref m42, .ref m43, .ref m44, .ref m45, .ref m46, .ref m47, .ref m48, .ref m49, .ref m50, .ref m51, .ref m52])), (m1, .inl (crf, 3, .inl (fun _ => 0)))]) hD hS hA [0, 1] rfl
  refine va_calli (va_runV (As := [.int v1]) (rest := []) ⟨hx, hb, hml, hown, hts⟩ (m_nearest l dC dI H.size (y0) (m1) (m8) (m11) (m12) (m13) (m14) (m15) (m16) (m17) (m18) (m19) (m20) (m21) (m25) (m26) (m29) (m30) (m31) (m32) (m34) (m35) (m36) (m37) (m40) (m41) (m42) (m43) (m44) (m45) (m46) (m47) (m48) (m49) (m50) (m51) (m52) (crf) (v1)) (cwV 1 hts (gV_G k1707 k1708 k1709 k13 k1710) rfl rfl rfl (by decide +kernel) ⟨Nat.le_of_ble_eq_true rfl, Nat.le_of_ble_eq_true rfl⟩) ⟨fun a U g mk q => by obtain ⟨q0, q1, qP, qK, qD⟩ := q; exact ⟨q0, q1, qP, va_K.moved (u := U) (U := U.calling g mk a) (Vm.Alike.refl U.vm) qK, qD⟩, va_recv hKc hPc (ci := 10) (q0 := 0) rfl rfl, fun U hU hW => ⟨rfl, by rw [hU], by rw [hU]; exact hPc, va_K.moved hW.alike hKc, hDc.weaken (fun _ _ _ _ => trivial)⟩⟩ rfl rfl hl.1 rfl (lv_room (Nat.le_of_ble_eq_true rfl)) dL_law_1580 ⟨Nat.le_of_ble_eq_true rfl, Nat.le_of_ble_eq_true rfl⟩) hS (fun q _ h => hFc q h) hFc (fun r102 u t H1 locs ht hvm hw hB hz1 hk1 hS => ?_)
  obtain ⟨hP1, hK1, hD1⟩ := hB
  rw [ht] at hP1
  have hK1 := va_K.moved hvm.symm hK1
  try dsimp only at hw
  obtain ⟨hP, hD⟩ := va_join (wr := []) (w1 := [(y0, .inr (10, [.int 1, .ref m1, .int 0, .int 0, .int 0, .int (-1), .int 0, .int 0, .ref m8, .int 0, .int 0, .ref m11, .ref m12, .ref m13, .ref m14, .ref m15, .ref m16, .ref m17, .ref m18, .ref m19, .ref m20, .ref m21, .int 0, .int 0, .int 0, .ref m25, .ref m26, .int 0, .int 0, .ref m29, .ref m30, .ref m31, .ref m32, .int 0, .ref m34, .ref m35, .ref m36, .ref m37, .int 0, .int 0, .ref m40, .ref m41, .ref m42, .ref m43, .ref m44, .ref m45, .ref m46, .ref m47, .ref m48, .ref m49, .ref m50, .ref m51, .ref m52]))]) hP hD [0, 1] [] rfl rfl (by decide) (by decide) hk1 hFc hP1 hD1
  have hK := hK.app hK1
  generalize H1 = H at hP hS ⊢
  have hP : va_P (dC, dI) vwCl [(y0, .inr (10, [.int 1, .ref m1, .int 0, .int 0, .int 0, .int (-1), .int 0, .int 0, .ref m8, .int 0, .int 0, .ref m11, .ref m12, .ref m13, .ref m14, .ref m15, .ref m16, .ref m17, .ref m18, .ref m19, .ref m20, .ref m21, .int 0, .int 0, .int 0, .ref m25, .ref m26, .int 0, .int 0, .ref m29, .ref m30, .ref m31, .ref m32, .int 0, .ref m34, .ref m35, .ref m36, .ref m37, .int 0, .int 0, .ref m40, .ref m41, .ref m42, .ref m43, .ref m44, .ref m45, .ref m46, .ref m47, .ref m48, .ref m49, .ref m50, .ref m51, .ref m52]))] H := hP
  have hD : va_D A [(y0, .inr (10, [.int 1, .ref m1, .int 0, .int 0, .int 0, .int (-1), .int 0, .int 0, .ref m8, .int 0, .int 0, .ref m11, .ref m12, .ref m13, .ref m14, .ref m15, .ref m16, .ref m17, .ref m18, .ref m19, .ref m20, .ref m21, .int 0, .int 0, .int 0, .ref m25, .ref m26, .int 0, .int 0, .ref m29, .ref m30, .ref m31, .ref m32, .int 0, .ref m34, .ref m35, .ref m36, .ref m37, .int 0, .int 0, .ref m40, .ref m41, .ref m42, .ref m43, .ref m44, .ref m45, .ref m46, .ref m47, .ref m48, .ref m49, .ref m50, .ref m51, .ref m52]))] := hD
  have hK : va_K (dC, dI) vwCl [(d53, .int), (crf, .int), (co, .long)] s := hK
  refine W.widen (k := 6561) (n := 850836) (by omega) (by omega) ?_
  obtain rfl : r102 = 0 := hw
  refine lv_istore (lv' := [(6, .int 0), (5, .int 1), (4, .int 0), (3, .ref o0), (2, .ref y0), (1, .ref x0), (0, .ref b)]) hx hb dL_law_1583 hl (by decide) rfl (fun ls hl => ?_)
  refine lv_aload_n hx hb dL_law_1585 rfl (lv_at hl 4 rfl) ?_
  have hPc := hP.sub (ws' := [(y0, .inr (10, [.int 1, .ref m1, .int 0, .int 0, .int 0, .int (-1), .int 0, .int 0, .ref m8, .int 0, .int 0, .ref m11, .ref m12, .ref m13, .ref m14, .ref m15, .ref m16, .ref m17, .ref m18, .ref m19, .ref m20, .ref m21, .int 0, .int 0, .int 0, .ref m25, .ref m26, .int 0, .int 0, .ref m29, .ref m30, .ref m31, .ref m32, .int 0, .ref m34, .ref m35, .ref m36, .ref m37, .int 0, .int 0, .ref m40, .ref m41, .ref m42, .ref m43, .ref m44, .ref m45, .ref m46, .ref m47, .ref m48, .ref m49, .ref m50, .ref m51, .ref m52]))]) [0] rfl
  have hDc := hD.sub (ws' := [(y0, .inr (10, [.int 1, .ref m1, .int 0, .int 0, .int 0, .int (-1), .int 0, .int 0, .ref m8, .int 0, .int 0, .ref m11, .ref m12, .ref m13, .ref m14, .ref m15, .ref m16, .ref m17, .ref m18, .ref m19, .ref m20, .ref m21, .int 0, .int 0, .int 0, .ref m25, .ref m26, .int 0, .int 0, .ref m29, .ref m30, .ref m31, .ref m32, .int 0, .ref m34, .ref m35, .ref m36, .ref m37, .int 0, .int 0, .ref m40, .ref m41, .ref m42, .ref m43, .ref m44, .ref m45, .ref m46, .ref m47, .ref m48, .ref m49, .ref m50, .ref m51, .ref m52]))]) [0] (by decide) rfl
  have hKc := hK.sub (tys' := []) [] rfl
  have hFc := va_free (wc := [(y0, .inr (10, [.int 1, .ref m1, .int 0, .int 0, .int 0, .int (-1), .int 0, .int 0, .ref m8, .int 0, .int 0, .ref m11, .ref m12, .ref m13, .ref m14, .ref m15, .ref m16, .ref m17, .ref m18, .ref m19, .ref m20, .ref m21, .int 0, .int 0, .int 0, .ref m25, .ref m26, .int 0, .int 0, .ref m29, .ref m30, .ref m31, .ref m32, .int 0, .ref m34, .ref m35, .ref m36, .ref m37, .int 0, .int 0, .ref m40, .ref m41, .ref m42, .ref m43, .ref m44, .ref m45, .ref m46, .ref m47, .ref m48, .ref m49, .ref m50, .ref m51, .ref m52]))]) hD hS hA [0] rfl
  refine va_calli (va_runV (As := []) (rest := []) ⟨hx, hb, hml, hown, hts⟩ (m_thrown l dC dI H.size (y0) (1) (m1) (0) (0) (0) ((-1)) (0) (0) (m8) (0) (0) (m11) (m12) (m13) (m14) (m15) (m16) (m17) (m18) (m19) (m20) (m21) (0) (0) (0) (m25) (m26) (0) (0) (m29) (m30) (m31) (m32) (0) (m34) (m35) (m36) (m37) (0) (0) (m40) (m41) (m42) (m43) (m44) (m45) (m46) (m47) (m48) (m49) (m50) (m51) (m52)) (cwV 0 hts (gV_G k1327 k1328 k1329 k13 k1330) rfl rfl rfl (by decide +kernel) ⟨Nat.le_of_ble_eq_true rfl, Nat.le_of_ble_eq_true rfl⟩) ⟨fun a U g mk q => by obtain ⟨q0, q1, qP, qK, qD⟩ := q; exact ⟨q0, q1, qP, va_K.moved (u := U) (U := U.calling g mk a) (Vm.Alike.refl U.vm) qK, qD⟩, va_recv hKc hPc (ci := 10) (q0 := 0) rfl rfl, fun U hU hW => ⟨rfl, by rw [hU], by rw [hU]; exact hPc, va_K.moved hW.alike hKc, hDc.weaken (fun _ _ _ _ => trivial)⟩⟩ rfl rfl hl.1 rfl (lv_room (Nat.le_of_ble_eq_true rfl)) dL_law_1586 ⟨Nat.le_of_ble_eq_true rfl, Nat.le_of_ble_eq_true rfl⟩) hS (fun q _ h => hFc q h) hFc (fun r103 u t H1 locs ht hvm hw hB hz1 hk1 hS => ?_)
  obtain ⟨hP1, hK1, hD1⟩ := hB
  rw [ht] at hP1
  have hK1 := va_K.moved hvm.symm hK1
  try dsimp only at hw
  obtain ⟨hP, hD⟩ := va_join (wr := []) (w1 := []) hP hD [0] [] rfl rfl (by decide) (by decide) hk1 hFc hP1 hD1
  have hK := hK.app hK1
  generalize H1 = H at hP hS ⊢
  have hP : va_P (dC, dI) vwCl [] H := hP
  have hD : va_D A [] := hD
  have hK : va_K (dC, dI) vwCl [(d53, .int), (crf, .int), (co, .long)] s := hK
  refine W.widen (k := 6561) (n := 850836) (by omega) (by omega) ?_
  obtain rfl : r103 = 1 := hw
  refine lv_iload hx hb dL_law_1589 (lv_at hl 1 rfl) ?_
  refine lv_icmp_eq (tgt := 1596) hx hb dL_law_1591 (by decide) (fun _ => ?_) (fun c9 => absurd (by decide +kernel) c9)
  refine lv_iload hx hb dL_law_1596 (lv_at hl 1 rfl) ?_
  refine lv_if_ne (tgt := 1613) hx hb dL_law_1598 (by decide) (fun _ => ?_) (fun c9 => absurd c9 (by decide +kernel))
  refine lv_goto (tgt := 2301) hx hb dL_law_1613 (by decide) ?_
  refine W.widen (k := 6567) (n := 850872) (by omega) (by omega) ?_
  exact hend H locs ls hS (lv_sub hl [2, 6] rfl)

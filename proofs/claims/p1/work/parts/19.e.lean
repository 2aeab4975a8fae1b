set_option maxHeartbeats 4000000 in
set_option maxRecDepth 100000 in
theorem lc_alike {p : Program} {l : Launch} {e : Env} {s : State} {m : MethodId} {below : List Frame} {meth : Method} {c : Code} {dC : Nat → ClassId} {dI : Nat → Nat → Nat} {A : Nat → Prop} {b : Nat} {xs : Nat → Int32} (C0 : lx_C p l s m c A b xs) {x0 w1 w6 w8 w15 w22 w26 w31 w35 w40 w48 w50 w52 w9 w10 w11 w12 w13 y0 m1 m8 m11 m12 m13 m14 m15 m16 m17 m18 m19 m20 m21 m25 m26 m29 m30 m31 m32 m34 m35 m36 m37 m40 m41 m42 m43 m44 m45 m46 m47 m48 m49 m50 m51 m52 o0 : Nat} {d53 crf cnd co : ClassId}  {v1 : Int32} {v2 : Int32} (hs1 : xs (1 : Int32).toNatClampNeg = v1) (hs2 : xs (2 : Int32).toNatClampNeg = v2)
    (hend : ∀ (H : Heap) (locs : List Loc) (ls : Array Slot), va_S A s.heap H locs → lv_has ls 7 [(4, .int 0), (0, .ref b)] → W p l e room_1 s m #[Value.ref b] below meth c H locs 6567 850872 (lw_Z below #[Value.ref b] s) (F0 m 2301 ls []))
    {H : Heap} {locs : List Loc} {ls : Array Slot} (hP : va_P (dC, dI) vwCl [(x0, .inr (9, [.ref w1, .ref w6, .int 0, .ref w8, .ref w15, .int 0, .int 0, .ref w22, .ref w26, .ref w31, .ref w35, .ref w40, .ref w48, .ref w50, .ref w52])), (w52, .inl (d53, 3, .inl (fun _ => 0))), (w8, .inr (4, [.ref w9, .ref w10, .ref w11, .ref w12, .ref w13, .int 0, .int 0, .int 0])), (y0, .inr (10, [.int 0, .ref m1, .int 0, .int 0, .int 0, .int (-1), .int 0, .int 0, .ref m8, .int 0, .int 0, .ref m11, .ref m12, .ref m13, .ref m14, .ref m15, .ref m16, .ref m17, .ref m18, .ref m19, .ref m20, .ref m21, .int 0, .int 0, .int 0, .ref m25, .ref m26, .int 0, .int 0, .ref m29, .ref m30, .ref m31, .ref m32, .int 0, .ref m34, .ref m35, .ref m36, .ref m37, .int 0, .int 0, .ref m40, .ref m41, .ref m42, .ref m43, .ref m44, .ref m45, .ref m46, .ref m47, .ref m48, .ref m49, .ref m50, .ref m51, .ref m52])), (m1, .inl (crf, 3, .inl (fun _ => 0))), (m21, .inl (cnd, 70, .inl (fun _ => 0))), (o0, .inl (co, 1, .inr (.inl (fun _ => 0))))] H) (hD : va_D A [(x0, .inr (9, [.ref w1, .ref w6, .int 0, .ref w8, .ref w15, .int 0, .int 0, .ref w22, .ref w26, .ref w31, .ref w35, .ref w40, .ref w48, .ref w50, .ref w52])), (w52, .inl (d53, 3, .inl (fun _ => 0))), (w8, .inr (4, [.ref w9, .ref w10, .ref w11, .ref w12, .ref w13, .int 0, .int 0, .int 0])), (y0, .inr (10, [.int 0, .ref m1, .int 0, .int 0, .int 0, .int (-1), .int 0, .int 0, .ref m8, .int 0, .int 0, .ref m11, .ref m12, .ref m13, .ref m14, .ref m15, .ref m16, .ref m17, .ref m18, .ref m19, .ref m20, .ref m21, .int 0, .int 0, .int 0, .ref m25, .ref m26, .int 0, .int 0, .ref m29, .ref m30, .ref m31, .ref m32, .int 0, .ref m34, .ref m35, .ref m36, .ref m37, .int 0, .int 0, .ref m40, .ref m41, .ref m42, .ref m43, .ref m44, .ref m45, .ref m46, .ref m47, .ref m48, .ref m49, .ref m50, .ref m51, .ref m52])), (m1, .inl (crf, 3, .inl (fun _ => 0))), (m21, .inl (cnd, 70, .inl (fun _ => 0))), (o0, .inl (co, 1, .inr (.inl (fun _ => 0))))]) (hK : va_K (dC, dI) vwCl [(d53, .int), (crf, .int), (cnd, .int), (co, .long)] s) (hS : va_S A s.heap H locs) (hl : lv_has ls 7 [(4, .int 0), (3, .ref o0), (2, .ref y0), (1, .ref x0), (0, .ref b)]) : W p l e room_1 s m #[Value.ref b] below meth c H locs 6559 850824 (lw_Z below #[Value.ref b] s) (F0 m 1741 ls []) := by
  obtain ⟨hfl, hx, hb, hml, hown, hts, hX, hbl, hbA, hA, hEx, hNc⟩ := C0
  refine lv_aload_n hx hb dL_law_1741 rfl (lv_at hl 3 rfl) ?_
  refine lv_aload_n hx hb dL_law_1742 rfl (lv_at hl 4 rfl) ?_
  refine lv_iload hx hb dL_law_1743 (lv_at hl 0 rfl) ?_
  refine lv_iconst (v := 1) hx hb dL_law_1745 (by decide) ?_
  refine lv_iadd hx hb dL_law_1746 ?_
  refine lv_topi (fun x9 ex9 => ?_)
  obtain rfl : x9 = 1 := ex9.trans (by decide +kernel)
  refine va_sld hx hb hX hbl hbA hS (by unfold vp_in; decide +kernel) dL_law_1747 ?_
  refine lv_topi (fun x9 ex9 => ?_)
  obtain rfl : v1 = x9 := (ex9.trans hs1).symm
  refine lv_aload_n hx hb dL_law_1748 rfl (lv_at hl 4 rfl) ?_
  refine lv_iload hx hb dL_law_1749 (lv_at hl 0 rfl) ?_
  refine lv_iconst (v := 2) hx hb dL_law_1751 (by decide) ?_
  refine lv_iadd hx hb dL_law_1752 ?_
  refine lv_topi (fun x9 ex9 => ?_)
  obtain rfl : x9 = 2 := ex9.trans (by decide +kernel)
  refine va_sld hx hb hX hbl hbA hS (by unfold vp_in; decide +kernel) dL_law_1753 ?_
  refine lv_topi (fun x9 ex9 => ?_)
  obtain rfl : v2 = x9 := (ex9.trans hs2).symm
  refine lv_aload_n hx hb dL_law_1754 rfl (lv_at hl 1 rfl) ?_
  have hPc := hP.sub (ws' := [(x0, .inr (9, [.ref w1, .ref w6, .int 0, .ref w8, .ref w15, .int 0, .int 0, .ref w22, .ref w26, .ref w31, .ref w35, .ref w40, .ref w48, .ref w50, .ref w52])), (w52, .inl (d53, 3, .inl (fun _ => 0))), (w8, .inr (4, [.ref w9, .ref w10, .ref w11, .ref w12, .ref w13, .int 0, .int 0, .int 0])), (o0, .inl (co, 1, .inr (.inl (fun _ => 0))))]) [0, 1, 2, 6] rfl
  have hDc := hD.sub (ws' := [(x0, .inr (9, [.ref w1, .ref w6, .int 0, .ref w8, .ref w15, .int 0, .int 0, .ref w22, .ref w26, .ref w31, .ref w35, .ref w40, .ref w48, .ref w50, .ref w52])), (w52, .inl (d53, 3, .inl (fun _ => 0))), (w8, .inr (4, [.ref w9, .ref w10, .ref w11, .ref w12, .ref w13, .int 0, .int 0, .int 0])), (o0, .inl (co, 1, .inr (.inl (fun _ => 0))))]) [0, 1, 2, 6] (by decide) rfl
  have hKc := hK.sub (tys' := [(d53, .int), (co, .long)]) [0, 3] rfl
  have hFc := va_free (wc := [(x0, .inr (9, [.ref w1, .ref w6, .int 0, .ref w8, .ref w15, .int 0, .int 0, .ref w22, .ref w26, .ref w31, .ref w35, .ref w40, .ref w48, .ref w50, .ref w52])), (w52, .inl (d53, 3, .inl (fun _ => 0))), (w8, .inr (4, [.ref w9, .ref w10, .ref w11, .ref w12, .ref w13, .int 0, .int 0, .int 0])), (o0, .inl (co, 1, .inr (.inl (fun _ => 0))))]) hD hS hA [0, 1, 2, 6] rfl
  refine va_calli (vx_runSW (hh := [(0, 17, 20, 20)]) (As := [.ref x0, .int v1, .int v2, .ref o0]) (rest := []) ⟨hx, hb, hml, hown, hts⟩ (w_alike l hfl dC dI H.size (x0) (w1) (w6) (w8) (w15) (w22) (w26) (w31) (w35) (w40) (w48) (w50) (w52) (w9) (w10) (w11) (w12) (w13) (d53) (o0) (co) (v1) (v2)) (vx_cwSW 4 hts (gW_G k1092 k1093 k0 k1094) rfl rfl rfl (by decide +kernel) ⟨Nat.le_of_ble_eq_true rfl, Nat.le_of_ble_eq_true rfl⟩) ⟨fun a U g mk q => by obtain ⟨q0, q1, qP, qK, qD, qE⟩ := q; exact ⟨q0, q1, qP, va_K.moved (u := U) (U := U.calling g mk a) (Vm.Alike.refl U.vm) qK, qD, xX_call qE⟩, fun U hU hW => ⟨rfl, by rw [hU], by rw [hU]; exact hPc, va_K.moved hW.alike hKc, hDc.weaken (fun _ _ _ _ => trivial), xX_at hEx hS (fun q h => hFc q h) hU hW⟩⟩ rfl rfl hl.1 rfl (lv_room (Nat.le_of_ble_eq_true rfl)) dL_law_1755 ⟨Nat.le_of_ble_eq_true rfl, Nat.le_of_ble_eq_true rfl⟩) hS (fun q _ h => hFc q h) hFc (fun r101 u t H1 locs ht hvm hw hB hz1 hk1 hS => ?_)
  obtain ⟨hP1, hK1, hD1⟩ := hB
  rw [ht] at hP1
  have hK1 := va_K.moved hvm.symm hK1
  try dsimp only at hw
  obtain ⟨hP, hD⟩ := va_join (wr := [(y0, .inr (10, [.int 0, .ref m1, .int 0, .int 0, .int 0, .int (-1), .int 0, .int 0, .ref m8, .int 0, .int 0, .ref m11, .ref m12, .ref m13, .ref m14, .ref m15, .ref m16, .ref m17, .ref m18, .ref m19, .ref m20, .ref m21, .int 0, .int 0, .int 0, .ref m25, .ref m26, .int 0, .int 0, .ref m29, .ref m30, .ref m31, .ref m32, .int 0, .ref m34, .ref m35, .ref m36, .ref m37, .int 0, .int 0, .ref m40, .ref m41, .ref m42, .ref m43, .ref m44, .ref m45, .ref m46, .ref m47, .ref m48, .ref m49, .ref m50, .ref m51, .ref m52])), (m1, .inl (crf, 3, .inl (fun _ => 0))), (m21, .inl (cnd, 70, .inl (fun _ => 0)))]) (w1 := []) hP hD [0, 1, 2, 6] [3, 4, 5] rfl rfl (by decide) (by decide) hk1 hFc hP1 hD1
  have hK := hK.app hK1
  generalize H1 = H at hP hS ⊢
  have hP : va_P (dC, dI) vwCl [(y0, .inr (10, [.int 0, .ref m1, .int 0, .int 0, .int 0, .int (-1), .int 0, .int 0, .ref m8, .int 0, .int 0, .ref m11, .ref m12, .ref m13, .ref m14, .ref m15, .ref m16, .ref m17, .ref m18, .ref m19, .ref m20, .ref m21, .int 0, .int 0, .int 0, .ref m25, .ref m26, .int 0, .int 0, .ref m29, .ref m30, .ref m31, .ref m32, .int 0, .ref m34, .ref m35, .ref m36, .ref m37, .int 0, .int 0, .ref m40, .ref m41, .ref m42, .ref m43, .ref m44, .ref m45, .ref m46, .ref m47, .ref m48, .ref m49, .ref m50, .ref m51, .ref m52])), (m1, .inl (crf, 3, .inl (fun _ => 0))), (m21, .inl (cnd, 70, .inl (fun _ => 0)))] H := hP
  have hD : va_D A [(y0, .inr (10, [.int 0, .ref m1, .int 0, .int 0, .int 0, .int (-1), .int 0, .int 0, .ref m8, .int 0, .int 0, .ref m11, .ref m12, .ref m13, .ref m14, .ref m15, .ref m16, .ref m17, .ref m18, .ref m19, .ref m20, .ref m21, .int 0, .int 0, .int 0, .ref m25, .ref m26, .int 0, .int 0, .ref m29, .ref m30, .ref m31, .ref m32, .int 0, .ref m34, .ref m35, .ref m36, .ref m37, .int 0, .int 0, .ref m40, .ref m41, .ref m42, .ref m43, .ref m44, .ref m45, .ref m46, .ref m47, .ref m48, .ref m49, .ref m50, .ref m51, .ref m52])), (m1, .inl (crf, 3, .inl (fun _ => 0))), (m21, .inl (cnd, 70, .inl (fun _ => 0)))] := hD
  have hK : va_K (dC, dI) vwCl [(d53, .int), (crf, .int), (cnd, .int), (co, .long)] s := hK
  refine W.widen (k := 6561) (n := 850836) (by omega) (by omega) ?_
  obtain rfl : r101 = 1 := hw
  refine lv_istore (lv' := [(5, .int 1), (4, .int 0), (3, .ref o0), (2, .ref y0), (1, .ref x0), (0, .ref b)]) hx hb dL_law_1758 hl (by decide) rfl (fun ls hl => ?_)
  refine lv_aload_n hx hb dL_law_1760 rfl (lv_at hl 3 rfl) ?_
  refine lv_aload_n hx hb dL_law_1761 rfl (lv_at hl 5 rfl) ?_
  refine lv_iload hx hb dL_law_1762 (lv_at hl 1 rfl) ?_
  refine lv_iconst (v := 1) hx hb dL_law_1764 (by decide) ?_
  refine lv_iadd hx hb dL_law_1765 ?_
  refine lv_topi (fun x9 ex9 => ?_)
  obtain rfl : x9 = 1 := ex9.trans (by decide +kernel)
  refine va_sld hx hb hX hbl hbA hS (by unfold vp_in; decide +kernel) dL_law_1766 ?_
  refine lv_topi (fun x9 ex9 => ?_)
  obtain rfl : v1 = x9 := (ex9.trans hs1).symm
  refine lv_aload_n hx hb dL_law_1767 rfl (lv_at hl 5 rfl) ?_
  refine lv_iload hx hb dL_law_1768 (lv_at hl 1 rfl) ?_
  refine lv_iconst (v := 2) hx hb dL_law_1770 (by decide) ?_
  refine lv_iadd hx hb dL_law_1771 ?_
  refine lv_topi (fun x9 ex9 => ?_)
  obtain rfl : x9 = 2 := ex9.trans (by decide +kernel)
  refine va_sld hx hb hX hbl hbA hS (by unfold vp_in; decide +kernel) dL_law_1772 ?_
  refine lv_topi (fun x9 ex9 => ?_)
  obtain rfl : v2 = x9 := (ex9.trans hs2).symm
  have hPc := hP.sub (ws' := [(y0, .inr (10, [.int 0, .ref m1, .int 0, .int 0, .int 0, .int (-1), .int 0, .int 0, .ref m8, .int 0, .int 0, .ref m11, .ref m12, .ref m13, .ref m14, .ref m15, .ref m16, .ref m17, .ref m18, .ref m19, .ref m20, .ref m21, .int 0, .int 0, .int 0, .ref m25, .ref m26, .int 0, .int 0, .ref m29, .ref m30, .ref m31, .ref m32, .int 0, .ref m34, .ref m35, .ref m36, .ref m37, .int 0, .int 0, .ref m40, .ref m41, .ref m42, .ref m43, .ref m44, .ref m45, .ref m46, .ref m47, .ref m48, .ref m49, .ref m50, .ref m51, .ref m52])), (m1, .inl (crf, 3, .inl (fun _ => 0))), (m21, .inl (cnd, 70, .inl (fun _ => 0)))]) [0, 1, 2] rfl
  have hDc := hD.sub (ws' := [(y0, .inr (10, [.int 0, .ref m1, .int 0, .int 0, .int 0, .int (-1), .int 0, .int 0, .ref m8, .int 0, .int 0, .ref m11, .ref m12, .ref m13, .ref m14, .ref m15, .ref m16, .ref m17, .ref m18, .ref m19, .ref m20, .ref m21, .int 0, .int 0, .int 0, .ref m25, .ref m26, .int 0, .int 0, .ref m29, .ref m30, .ref m31, .ref m32, .int 0, .ref m34, .ref m35, .ref m36, .ref m37, .int 0, .int 0, .ref m40, .ref m41, .ref m42, .ref m43, .ref m44, .ref m45, .ref m46, .ref m47, .ref m48, .ref m49, .ref m50, .ref m51, .ref m52])), (m1, .inl (crf, 3, .inl (fun _ => 0))), (m21, .inl (cnd, 70, .inl (fun _ => 0)))]) [0, 1, 2] (by decide) rfl
  have hKc := hK.sub (tys' := [(crf, .int), (cnd, .int)]) [1, 2] rfl
  have hFc := va_free (wc := [(y0, .inr (10, [.int 0, .ref m1, .int 0, .int 0, .int 0, .int (-1), .int 0, .int 0, .ref m8, .int 0, .int 0, .ref m11, .ref m12, .ref m13, .ref m14, .ref m15, .ref m16, .ref m17, .ref m18, .ref m19, .ref m20, .ref m21, .int 0, .int 0, .int 0, .ref m25, .ref m26, .int 0, .int 0, .ref m29, .ref m30, .ref m31, .ref m32, .int 0, .ref m34, .ref m35, .ref m36, .ref m37, .int 0, .int 0, .ref m40, .ref m41, .ref m42, .ref m43, .ref m44, .ref m45, .ref m46, .ref m47, .ref m48, .ref m49, .ref m50, .ref m51, .ref m52])), (m1, .inl (crf, 3, .inl (fun _ => 0))), (m21, .inl (cnd, 70, .inl (fun _ => 0)))]) hD hS hA [0, 1, 2] rfl
  refine va_calli (va_runV (As := [.int v1, .int v2]) (rest := []) ⟨hx, hb, hml, hown, hts⟩ (m_alike l dC dI H.size (y0) (m1) (m8) (m11) (m12) (m13) (m14) (m15) (m16) (m17) (m18) (m19) (m20) (m21) (m25) (m26) (m29) (m30) (m31) (m32) (m34) (m35) (m36) (m37) (m40) (m41) (m42) (m43) (m44) (m45) (m46) (m47) (m48) (m49) (m50) (m51) (m52) (crf) (cnd) (v1) (v2)) (cwV 2 hts (gV_G k1735 k1736 k1737 k13 k1738) rfl rfl rfl (by decide +kernel) ⟨Nat.le_of_ble_eq_true rfl, Nat.le_of_ble_eq_true rfl⟩) ⟨fun a U g mk q => by obtain ⟨q0, q1, qP, qK, qD⟩ := q; exact ⟨q0, q1, qP, va_K.moved (u := U) (U := U.calling g mk a) (Vm.Alike.refl U.vm) qK, qD⟩, va_recv hKc hPc (ci := 10) (q0 := 0) rfl rfl, fun U hU hW => ⟨rfl, by rw [hU], by rw [hU]; exact hPc, va_K.moved hW.alike hKc, hDc.weaken (fun _ _ _ _ => trivial)⟩⟩ rfl rfl hl.1 rfl (lv_room (Nat.le_of_ble_eq_true rfl)) dL_law_1773 ⟨Nat.le_of_ble_eq_true rfl, Nat.le_of_ble_eq_true rfl⟩) hS (fun q _ h => hFc q h) hFc (fun r102 u t H1 locs ht hvm hw hB hz1 hk1 hS => ?_)
  obtain ⟨hP1, hK1, hD1⟩ := hB
  rw [ht] at hP1
  have hK1 := va_K.moved hvm.symm hK1
  try dsimp only at hw
  obtain ⟨hP, hD⟩ := va_join (wr := []) (w1 := [(y0, .inr (10, [.int 1, .ref m1, .int 0, .int 0, .int 0, .int (-1), .int 0, .int 0, .ref m8, .int 0, .int 0, .ref m11, .ref m12, .ref m13, .ref m14, .ref m15, .ref m16, .ref m17, .ref m18, .ref m19, .ref m20, .ref m21, .int 0, .int 0, .int 0, .ref m25, .ref m26, .int 0, .int 0, .ref m29, .ref m30, .ref m31, .ref m32, .int 0, .ref m34, .ref m35, .ref m36, .ref m37, .int 0, .int 0, .ref m40, .ref m41, .ref m42, .ref m43, .ref m44, .ref m45, .ref m46, .ref m47, .ref m48, .ref m49, .ref m50, .ref m51, .ref m52]))]) hP hD [0, 1, 2] [] rfl rfl (by decide) (by decide) hk1 hFc hP1 hD1
  have hK := hK.app hK1
  generalize H1 = H at hP hS ⊢
  have hP : va_P (dC, dI) vwCl [(y0, .inr (10, [.int 1, .ref m1, .int 0, .int 0, .int 0, .int (-1), .int 0, .int 0, .ref m8, .int 0, .int 0, .ref m11, .ref m12, .ref m13, .ref m14, .ref m15, .ref m16, .ref m17, .ref m18, .ref m19, .ref m20, .ref m21, .int 0, .int 0, .int 0, .ref m25, .ref m26, .int 0, .int 0, .ref m29, .ref m30, .ref m31, .ref m32, .int 0, .ref m34, .ref m35, .ref m36, .ref m37, .int 0, .int 0, .ref m40, .ref m41, .ref m42, .ref m43, .ref m44, .ref m45, .ref m46, .ref m47, .ref m48, .ref m49, .ref m50, .ref m51, .ref m52]))] H := hP
  have hD : va_D A [(y0, .inr (10, [.int 1, .ref m1, .int 0, .int 0, .int 0, .int (-1), .int 0, .int 0, .ref m8, .int 0, .int 0, .ref m11, .ref m12, .ref m13, .ref m14, .ref m15, .ref m16, .ref m17, .ref m18, .ref m19, .ref m20, .ref m21, .int 0, .int 0, .int 0, .ref m25, .ref m26, .int 0, .int 0, .ref m29, .ref m30, .ref m31, .ref m32, .int 0, .ref m34, .ref m35, .ref m36, .ref m37, .int 0, .int 0, .ref m40, .ref m41, .ref m42, .ref m43, .ref m44, .ref m45, .ref m46, .ref m47, .ref m48, .ref m49, .ref m50, .ref m51, .ref m52]))] := hD
  have hK : va_K (dC, dI) vwCl [(d53, .int), (crf, .int), (cnd, .int), (co, .long)] s := hK
  refine W.widen (k := 6561) (n := 850836) (by omega) (by omega) ?_
  obtain rfl : r102 = 0 := hw
  refine lv_istore (lv' := [(6, .int 0), (5, .int 1), (4, .int 0), (3, .ref o0), (2, .ref y0), (1, .ref x0), (0, .ref b)]) hx hb dL_law_1776 hl (by decide) rfl (fun ls hl => ?_)
  refine lv_aload_n hx hb dL_law_1778 rfl (lv_at hl 4 rfl) ?_
  have hPc := hP.sub (ws' := [(y0, .inr (10, [.int 1, .ref m1, .int 0, .int 0, .int 0, .int (-1), .int 0, .int 0, .ref m8, .int 0, .int 0, .ref m11, .ref m12, .ref m13, .ref m14, .ref m15, .ref m16, .ref m17, .ref m18, .ref m19, .ref m20, .ref m21, .int 0, .int 0, .int 0, .ref m25, .ref m26, .int 0, .int 0, .ref m29, .ref m30, .ref m31, .ref m32, .int 0, .ref m34, .ref m35, .ref m36, .ref m37, .int 0, .int 0, .ref m40, .ref m41, .ref m42, .ref m43, .ref m44, .ref m45, .ref m46, .ref m47, .ref m48, .ref m49, .ref m50, .ref m51, .ref m52]))]) [0] rfl
  have hDc := hD.sub (ws' := [(y0, .inr (10, [.int 1, .ref m1, .int 0, .int 0, .int 0, .int (-1), .int 0, .int 0, .ref m8, .int 0, .int 0, .ref m11, .ref m12, .ref m13, .ref m14, .ref m15, .ref m16, .ref m17, .ref m18, .ref m19, .ref m20, .ref m21, .int 0, .int 0, .int 0, .ref m25, .ref m26, .int 0, .int 0, .ref m29, .ref m30, .ref m31, .ref m32, .int 0, .ref m34, .ref m35, .ref m36, .ref m37, .int 0, .int 0, .ref m40, .ref m41, .ref m42, .ref m43, .ref m44, .ref m45, .ref m46, .ref m47, .ref m48, .ref m49, .ref m50, .ref m51, .ref m52]))]) [0] (by decide) rfl
  have hKc := hK.sub (tys' := []) [] rfl
  have hFc := va_free (wc := [(y0, .inr (10, [.int 1, .ref m1, .int 0, .int 0, .int 0, .int (-1), .int 0, .int 0, .ref m8, .int 0, .int 0, .ref m11, .ref m12, .ref m13, .ref m14, .ref m15, .ref m16, .ref m17, .ref m18, .ref m19, .ref m20, .ref m21, .int 0, .int 0, .int 0, .ref m25, .ref m26, .int 0, .int 0, .ref m29, .ref m30, .ref m31, .ref m32, .int 0, .ref m34, .ref m35, .ref m36, .ref m37, .int 0, .int 0, .ref m40, .ref m41, .ref m42, .ref m43, .ref m44, .ref m45, .ref m46, .ref m47, .ref m48, .ref m49, .ref m50, .ref m51, .ref m52]))]) hD hS hA [0] rfl
  refine va_calli (va_runV (As := []) (rest := []) ⟨hx, hb, hml, hown, hts⟩ (m_thrown l dC dI H.size (y0) (1) (m1) (0) (0) (0) ((-1)) (0) (0) (m8) (0) (0) (m11) (m12) (m13) (m14) (m15) (m16) (m17) (m18) (m19) (m20) (m21) (0) (0) (0) (m25) (m26) (0) (0) (m29) (m30) (m31) (m32) (0) (m34) (m35) (m36) (m37) (0) (0) (m40) (m41) (m42) (m43) (m44) (m45) (m46) (m47) (m48) (m49) (m50) (m51) (m52)) (cwV 0 hts (gV_G k1327 k1328 k1329 k13 k1330) rfl rfl rfl (by decide +kernel) ⟨Nat.le_of_ble_eq_true rfl, Nat.le_of_ble_eq_true rfl⟩) ⟨fun a U g mk q => by obtain ⟨q0, q1, qP, qK, qD⟩ := q; exact ⟨q0, q1, qP, va_K.moved (u := U) (U := U.calling g mk a) (Vm.Alike.refl U.vm) qK, qD⟩, va_recv hKc hPc (ci := 10) (q0 := 0) rfl rfl, fun U hU hW => ⟨rfl, by rw [hU], by rw [hU]; exact hPc, va_K.moved hW.alike hKc, hDc.weaken (fun _ _ _ _ => trivial)⟩⟩ rfl rfl hl.1 rfl (lv_room (Nat.le_of_ble_eq_true rfl)) dL_law_1779 ⟨Nat.le_of_ble_eq_true rfl, Nat.le_of_ble_eq_true rfl⟩) hS (fun q _ h => hFc q h) hFc (fun r103 u t H1 locs ht hvm hw hB hz1 hk1 hS => ?_)
  obtain ⟨hP1, hK1, hD1⟩ := hB
  rw [ht] at hP1
  have hK1 := va_K.moved hvm.symm hK1
  try dsimp only at hw
  obtain ⟨hP, hD⟩ := va_join (wr := []) (w1 := []) hP hD [0] [] rfl rfl (by decide) (by decide) hk1 hFc hP1 hD1
  have hK := hK.app hK1
  generalize H1 = H at hP hS ⊢
  have hP : va_P (dC, dI) vwCl [] H := hP
  have hD : va_D A [] := hD
  have hK : va_K (dC, dI) vwCl [(d53, .int), (crf, .int), (cnd, .int), (co, .long)] s := hK
  refine W.widen (k := 6561) (n := 850836) (by omega) (by omega) ?_
  obtain rfl : r103 = 1 := hw
  refine lv_iload hx hb dL_law_1782 (lv_at hl 1 rfl) ?_
  refine lv_icmp_eq (tgt := 1789) hx hb dL_law_1784 (by decide) (fun _ => ?_) (fun c9 => absurd (by decide +kernel) c9)
  refine lv_iload hx hb dL_law_1789 (lv_at hl 1 rfl) ?_
  refine lv_if_ne (tgt := 1813) hx hb dL_law_1791 (by decide) (fun _ => ?_) (fun c9 => absurd c9 (by decide +kernel))
  refine lv_goto (tgt := 2301) hx hb dL_law_1813 (by decide) ?_
  refine W.widen (k := 6567) (n := 850872) (by omega) (by omega) ?_
  exact hend H locs ls hS (lv_sub hl [2, 6] rfl)
set_option maxHeartbeats 4000000 in
set_option maxRecDepth 100000 in
theorem lc_cuts {p : Program} {l : Launch} {e : Env} {s : State} {m : MethodId} {below : List Frame} {meth : Method} {c : Code} {dC : Nat → ClassId} {dI : Nat → Nat → Nat} {A : Nat → Prop} {b : Nat} {xs : Nat → Int32} (C0 : lx_C p l s m c A b xs) {x0 w1 w6 w8 w15 w22 w26 w31 w35 w40 w48 w50 w52 y0 m1 m8 m11 m12 m13 m14 m15 m16 m17 m18 m19 m20 m21 m25 m26 m29 m30 m31 m32 m34 m35 m36 m37 m40 m41 m42 m43 m44 m45 m46 m47 m48 m49 m50 m51 m52 o0 : Nat} {d53 crf co : ClassId}  {v1 : Int32} (hs1 : xs (1 : Int32).toNatClampNeg = v1)
    (hend : ∀ (H : Heap) (locs : List Loc) (ls : Array Slot), va_S A s.heap H locs → lv_has ls 7 [(4, .int 0), (0, .ref b)] → W p l e room_1 s m #[Value.ref b] below meth c H locs 6567 850872 (lw_Z below #[Value.ref b] s) (F0 m 2301 ls []))
    {H : Heap} {locs : List Loc} {ls : Array Slot} (hP : va_P (dC, dI) vwCl [(x0, .inr (9, [.ref w1, .ref w6, .int 0, .ref w8, .ref w15, .int 0, .int 0, .ref w22, .ref w26, .ref w31, .ref w35, .ref w40, .ref w48, .ref w50, .ref w52])), (w52, .inl (d53, 3, .inl (fun _ => 0))), (y0, .inr (10, [.int 0, .ref m1, .int 0, .int 0, .int 0, .int (-1), .int 0, .int 0, .ref m8, .int 0, .int 0, .ref m11, .ref m12, .ref m13, .ref m14, .ref m15, .ref m16, .ref m17, .ref m18, .ref m19, .ref m20, .ref m21, .int 0, .int 0, .int 0, .ref m25, .ref m26, .int 0, .int 0, .ref m29, .ref m30, .ref m31, .ref m32, .int 0, .ref m34, .ref m35, .ref m36, .ref m37, .int 0, .int 0, .ref m40, .ref m41, .ref m42, .ref m43, .ref m44, .ref m45, .ref m46, .ref m47, .ref m48, .ref m49, .ref m50, .ref m51, .ref m52])), (m1, .inl (crf, 3, .inl (fun _ => 0))), (o0, .inl (co, 1, .inr (.inl (fun _ => 0))))] H) (hD : va_D A [(x0, .inr (9, [.ref w1, .ref w6, .int 0, .ref w8, .ref w15, .int 0, .int 0, .ref w22, .ref w26, .ref w31, .ref w35, .ref w40, .ref w48, .ref w50, .ref w52])), (w52, .inl (d53, 3, .inl (fun _ => 0))), (y0, .inr (10, [.int 0, .ref m1, .int 0, .int 0, .int 0, .int (-1), .int 0, .int 0, .ref m8, .int 0, .int 0, .ref m11, .ref m12, .ref m13, .ref m14, .ref m15, .ref m16, .ref m17, .ref m18, .ref m19, .ref m20, .ref m21, .int 0, .int 0, .int 0, .ref m25, .ref m26, .int 0, .int 0, .ref m29, .ref m30, .ref m31, .ref m32, .int 0, .ref m34, .ref m35, .ref m36, .ref m37, .int 0, .int 0, .ref m40, .ref m41, .ref m42, .ref m43, .ref m44, .ref m45, .ref m46, .ref m47, .ref m48, .ref m49, .ref m50, .ref m51, .ref m52])), (m1, .inl (crf, 3, .inl (fun _ => 0))), (o0, .inl (co, 1, .inr (.inl (fun _ => 0))))]) (hK : va_K (dC, dI) vwCl [(d53, .int), (crf, .int), (co, .long)] s) (hS : va_S A s.heap H locs) (hl : lv_has ls 7 [(4, .int 0), (3, .ref o0), (2, .ref y0), (1, .ref x0), (0, .ref b)]) : W p l e room_1 s m #[Value.ref b] below meth c H locs 6559 850824 (lw_Z below #[Value.ref b] s) (F0 m 1816 ls []) := by
  obtain ⟨hfl, hx, hb, hml, hown, hts, hX, hbl, hbA, hA, hEx, hNc⟩ := C0
  refine lv_aload_n hx hb dL_law_1816 rfl (lv_at hl 3 rfl) ?_
  refine lv_aload_n hx hb dL_law_1817 rfl (lv_at hl 4 rfl) ?_
  refine lv_iload hx hb dL_law_1818 (lv_at hl 0 rfl) ?_
  refine lv_iconst (v := 1) hx hb dL_law_1820 (by decide) ?_
  refine lv_iadd hx hb dL_law_1821 ?_
  refine lv_topi (fun x9 ex9 => ?_)
  obtain rfl : x9 = 1 := ex9.trans (by decide +kernel)
  refine va_sld hx hb hX hbl hbA hS (by unfold vp_in; decide +kernel) dL_law_1822 ?_
  refine lv_topi (fun x9 ex9 => ?_)
  obtain rfl : v1 = x9 := (ex9.trans hs1).symm
  refine lv_aload_n hx hb dL_law_1823 rfl (lv_at hl 1 rfl) ?_
  have hPc := hP.sub (ws' := [(x0, .inr (9, [.ref w1, .ref w6, .int 0, .ref w8, .ref w15, .int 0, .int 0, .ref w22, .ref w26, .ref w31, .ref w35, .ref w40, .ref w48, .ref w50, .ref w52])), (w52, .inl (d53, 3, .inl (fun _ => 0))), (o0, .inl (co, 1, .inr (.inl (fun _ => 0))))]) [0, 1, 4] rfl
  have hDc := hD.sub (ws' := [(x0, .inr (9, [.ref w1, .ref w6, .int 0, .ref w8, .ref w15, .int 0, .int 0, .ref w22, .ref w26, .ref w31, .ref w35, .ref w40, .ref w48, .ref w50, .ref w52])), (w52, .inl (d53, 3, .inl (fun _ => 0))), (o0, .inl (co, 1, .inr (.inl (fun _ => 0))))]) [0, 1, 4] (by decide) rfl
  have hKc := hK.sub (tys' := [(d53, .int), (co, .long)]) [0, 2] rfl
  have hFc := va_free (wc := [(x0, .inr (9, [.ref w1, .ref w6, .int 0, .ref w8, .ref w15, .int 0, .int 0, .ref w22, .ref w26, .ref w31, .ref w35, .ref w40, .ref w48, .ref w50, .ref w52])), (w52, .inl (d53, 3, .inl (fun _ => 0))), (o0, .inl (co, 1, .inr (.inl (fun _ => 0))))]) hD hS hA [0, 1, 4] rfl
  refine va_calli (vx_runSW (hh := [(0, 9, 12, 20)]) (As := [.ref x0, .int v1, .ref o0]) (rest := []) ⟨hx, hb, hml, hown, hts⟩ (w_cuts l hfl dC dI H.size (x0) (w1) (w6) (w8) (w15) (w22) (w26) (w31) (w35) (w40) (w48) (w50) (w52) (d53) (o0) (co) (v1)) (vx_cwSW 3 hts (gW_G k1101 k1102 k0 k1103) rfl rfl rfl (by decide +kernel) ⟨Nat.le_of_ble_eq_true rfl, Nat.le_of_ble_eq_true rfl⟩) ⟨fun a U g mk q => by obtain ⟨q0, q1, qP, qK, qD, qE⟩ := q; exact ⟨q0, q1, qP, va_K.moved (u := U) (U := U.calling g mk a) (Vm.Alike.refl U.vm) qK, qD, xX_call qE⟩, fun U hU hW => ⟨rfl, by rw [hU], by rw [hU]; exact hPc, va_K.moved hW.alike hKc, hDc.weaken (fun _ _ _ _ => trivial), xX_at hEx hS (fun q h => hFc q h) hU hW⟩⟩ rfl rfl hl.1 rfl (lv_room (Nat.le_of_ble_eq_true rfl)) dL_law_1824 ⟨Nat.le_of_ble_eq_true rfl, Nat.le_of_ble_eq_true rfl⟩) hS (fun q _ h => hFc q h) hFc (fun r101 u t H1 locs ht hvm hw hB hz1 hk1 hS => ?_)
  obtain ⟨hP1, hK1, hD1⟩ := hB
  rw [ht] at hP1
  have hK1 := va_K.moved hvm.symm hK1
  try dsimp only at hw
  obtain ⟨hP, hD⟩ := va_join (wr := [(y0, .inr (10, [.int 0, .ref m1, .int 0, .int 0, .int 0, .int (-1), .int 0, .int 0, .ref m8, .int 0, .int 0, .ref m11, .ref m12, .ref m13, .ref m14, .ref m15, .ref m16, .ref m17, .ref m18, .ref m19, .ref m20, .ref m21, .int 0, .int 0, .int 0, .ref m25, .ref m26, .int 0, .int 0, .ref m29, .ref m30, .ref m31, .ref m32, .int 0, .ref m34, .ref m35, .ref m36, .ref m37, .int 0, .int 0, .ref m40, .ref m41, .ref m42, .ref m43, .ref m44, .ref m45, .ref m46, .ref m47, .ref m48, .ref m49, .ref m50, .ref m51, .ref m52])), (m1, .inl (crf, 3, .inl (fun _ => 0)))]) (w1 := []) hP hD [0, 1, 4] [2, 3] rfl rfl (by decide) (by decide) hk1 hFc hP1 hD1
  have hK := hK.app hK1
  generalize H1 = H at hP hS ⊢
  have hP : va_P (dC, dI) vwCl [(y0, .inr (10, [.int 0, .ref m1, .int 0, .int 0, .int 0, .int (-1), .int 0, .int 0, .ref m8, .int 0, .int 0, .ref m11, .ref m12, .ref m13, .ref m14, .ref m15, .ref m16, .ref m17, .ref m18, .ref m19, .ref m20, .ref m21, .int 0, .int 0, .int 0, .ref m25, .ref m26, .int 0, .int 0, .ref m29, .ref m30, .ref m31, .ref m32, .int 0, .ref m34, .ref m35, .ref m36, .ref m37, .int 0, .int 0, .ref m40, .ref m41, .ref m42, .ref m43, .ref m44, .ref m45, .ref m46, .ref m47, .ref m48, .ref m49, .ref m50, .ref m51, .ref m52])), (m1, .inl (crf, 3, .inl (fun _ => 0)))] H := hP
  have hD : va_D A [(y0, .inr (10, [.int 0, .ref m1, .int 0, .int 0, .int 0, .int (-1), .int 0, .int 0, .ref m8, .int 0, .int 0, .ref m11, .ref m12, .ref m13, .ref m14, .ref m15, .ref m16, .ref m17, .ref m18, .ref m19, .ref m20, .ref m21, .int 0, .int 0, .int 0, .ref m25, .ref m26, .int 0, .int 0, .ref m29, .ref m30, .ref m31, .ref m32, .int 0, .ref m34, .ref m35, .ref m36, .ref m37, .int 0, .int 0, .ref m40, .ref m41, .ref m42, .ref m43, .ref m44, .ref m45, .ref m46, .ref m47, .ref m48, .ref m49, .ref m50, .ref m51, .ref m52])), (m1, .inl (crf, 3, .inl (fun _ => 0)))] := hD
  have hK : va_K (dC, dI) vwCl [(d53, .int), (crf, .int), (co, .long)] s := hK
  refine W.widen (k := 6561) (n := 850836) (by omega) (by omega) ?_
  obtain rfl : r101 = 1 := hw
  refine lv_istore (lv' := [(5, .int 1), (4, .int 0), (3, .ref o0), (2, .ref y0), (1, .ref x0), (0, .ref b)]) hx hb dL_law_1827 hl (by decide) rfl (fun ls hl => ?_)
  refine lv_aload_n hx hb dL_law_1829 rfl (lv_at hl 3 rfl) ?_
  refine lv_aload_n hx hb dL_law_1830 rfl (lv_at hl 5 rfl) ?_
  refine lv_iload hx hb dL_law_1831 (lv_at hl 1 rfl) ?_
  refine lv_iconst (v := 1) hx hb dL_law_1833 (by decide) ?_
  refine lv_iadd hx hb dL_law_1834 ?_
  refine lv_topi (fun x9 ex9 => ?_)
  obtain rfl : x9 = 1 := ex9.trans (by decide +kernel)
  refine va_sld hx hb hX hbl hbA hS (by unfold vp_in; decide +kernel) dL_law_1835 ?_
  refine lv_topi (fun x9 ex9 => ?_)
  obtain rfl : v1 = x9 := (ex9.trans hs1).symm
  have hPc := hP.sub (ws' := [(y0, .inr (10, [.int 0, .ref m1, .int 0, .int 0, .int 0, .int (-1), .int 0, .int 0, .ref m8, .int 0, .int 0, .ref m11, .ref m12, .ref m13, .ref m14, .ref m15, .ref m16, .ref m17, .ref m18, .ref m19, .ref m20, .ref m21, .int 0, .int 0, .int 0, .ref m25, .ref m26, .int 0, .int 0, .ref m29, .ref m30, .ref m31, .ref m32, .int 0, .ref m34, .ref m35, .ref m36, .ref m37, .int 0, .int 0, .ref m40, .ref m41, .ref m42, .ref m43, .ref m44, .ref m45, .ref m46, .ref m47, .ref m48, .ref m49, .ref m50, .ref m51, .ref m52])), (m1, .inl (crf, 3, .inl (fun _ => 0)))]) [0, 1] rfl
  have hDc := hD.sub (ws' := [(y0, .inr (10, [.int 0, .ref m1, .int 0, .int 0, .int 0, .int (-1), .int 0, .int 0, .ref m8, .int 0, .int 0, .ref m11, .ref m12, .ref m13, .ref m14, .ref m15, .ref m16, .ref m17, .ref m18, .ref m19, .ref m20, .ref m21, .int 0, .int 0, .int 0, .ref m25, .ref m26, .int 0, .int 0, .ref m29, .ref m30, .ref m31, .ref m32, .int 0, .ref m34, .ref m35, .ref m36, .ref m37, .int 0, .int 0, .ref m40, .ref m41, .ref m42, .ref m43, .ref m44, .ref m45, .ref m46, .ref m47, .ref m48, .ref m49, .ref m50, .ref m51, .ref m52])), (m1, .inl (crf, 3, .inl (fun _ => 0)))]) [0, 1] (by decide) rfl
  have hKc := hK.sub (tys' := [(crf, .int)]) [1] rfl
  have hFc := va_free (wc := [(y0, .inr (10, [.int 0, .ref m1, .int 0, .int 0, .int 0, .int (-1), .int 0, .int 0, .ref m8, .int 0, .int 0, .ref m11, .ref m12, .ref m13, .ref m14, .ref m15, .ref m16, .ref m17, .ref m18, .ref m19, .ref m20, .ref m21, .int 0, .int 0, .int 0, .ref m25, .ref m26, .int 0, .int 0, .ref m29, .ref m30, .ref m31, .ref m32, .int 0, .ref m34, .ref m35, .ref m36, .ref m37, .int 0, .int 0, .ref m40, .ref m41, .ref m42, .ref m43, .ref m44, .ref m45, .ref m46, .ref m47, .ref m48, .ref m49, .ref m50, .ref m51, .ref m52])), (m1, .inl (crf, 3, .inl (fun _ => 0)))]) hD hS hA [0, 1] rfl
  refine va_calli (va_runV (As := [.int v1]) (rest := []) ⟨hx, hb, hml, hown, hts⟩ (m_cuts l dC dI H.size (y0) (m1) (m8) (m11) (m12) (m13) (m14) (m15) (m16) (m17) (m18) (m19) (m20) (m21) (m25) (m26) (m29) (m30) (m31) (m32) (m34) (m35) (m36) (m37) (m40) (m41) (m42) (m43) (m44) (m45) (m46) (m47) (m48) (m49) (m50) (m51) (m52) (crf) (v1)) (cwV 1 hts (gV_G k1739 k1740 k1741 k13 k1742) rfl rfl rfl (by decide +kernel) ⟨Nat.le_of_ble_eq_true rfl, Nat.le_of_ble_eq_true rfl⟩) ⟨fun a U g mk q => by obtain ⟨q0, q1, qP, qK, qD⟩ := q; exact ⟨q0, q1, qP, va_K.moved (u := U) (U := U.calling g mk a) (Vm.Alike.refl U.vm) qK, qD⟩, va_recv hKc hPc (ci := 10) (q0 := 0) rfl rfl, fun U hU hW => ⟨rfl, by rw [hU], by rw [hU]; exact hPc, va_K.moved hW.alike hKc, hDc.weaken (fun _ _ _ _ => trivial)⟩⟩ rfl rfl hl.1 rfl (lv_room (Nat.le_of_ble_eq_true rfl)) dL_law_1836 ⟨Nat.le_of_ble_eq_true rfl, Nat.le_of_ble_eq_true rfl⟩) hS (fun q _ h => hFc q h) hFc (fun r102 u t H1 locs ht hvm hw hB hz1 hk1 hS => ?_)
  obtain ⟨hP1, hK1, hD1⟩ := hB
  rw [ht] at hP1
  have hK1 := va_K.moved hvm.symm hK1
  try dsimp only at hw
  obtain ⟨hP, hD⟩ := va_join (wr := []) (w1 := [(y0, .inr (10, [.int 1, .ref m1, .int 0, .int 0, .int 0, .int (-1), .int 0, .int 0, .ref m8, .int 0, .int 0, .ref m11, .ref m12, .ref m13, .ref m14, .ref m15, .ref m16, .ref m17, .ref m18, .ref m19, .ref m20, .ref m21, .int 0, .int 0, .int 0, .ref m25, .ref m26, .int 0, .int 0, .ref m29, .ref m30, .ref m31, .ref m32, .int 0, .ref m34, .ref m35, .ref m36, .ref m37, .int 0, .int 0, .ref m40, .ref m41, .ref m42, .ref m43, .ref m44, .ref m45, .ref m46, .ref m47, .ref m48, .ref m49, .ref m50, .ref m51, .ref m52]))]) hP hD [0, 1] [] rfl rfl (by decide) (by decide) hk1 hFc hP1 hD1
  have hK := hK.app hK1
  generalize H1 = H at hP hS ⊢
  have hP : va_P (dC, dI) vwCl [(y0, .inr (10, [.int 1, .ref m1, .int 0, .int 0, .int 0, .int (-1), .int 0, .int 0, .ref m8, .int 0, .int 0, .ref m11, .ref m12, .ref m13, .ref m14, .ref m15, .ref m16, .ref m17, .ref m18, .ref m19, .ref m20, .ref m21, .int 0, .int 0, .int 0, .ref m25, .ref m26, .int 0, .int 0, .ref m29, .ref m30, .ref m31, .ref m32, .int 0, .ref m34, .ref m35, .ref m36, .ref m37, .int 0, .int 0, .ref m40, .ref m41, .ref m42, .ref m43, .ref m44, .ref m45, .ref m46, .ref m47, .ref m48, .ref m49, .ref m50, .ref m51, .ref m52]))] H := hP
  have hD : va_D A [(y0, .inr (10, [.int 1, .ref m1, .int 0, .int 0, .int 0, .int (-1), .int 0, .int 0, .ref m8, .int 0, .int 0, .ref m11, .ref m12, .ref m13, .ref m14, .ref m15, .ref m16, .ref m17, .ref m18, .ref m19, .ref m20, .ref m21, .int 0, .int 0, .int 0, .ref m25, .ref m26, .int 0, .int 0, .ref m29, .ref m30, .ref m31, .ref m32, .int 0, .ref m34, .ref m35, .ref m36, .ref m37, .int 0, .int 0, .ref m40, .ref m41, .ref m42, .ref m43, .ref m44, .ref m45, .ref m46, .ref m47, .ref m48, .ref m49, .ref m50, .ref m51, .ref m52]))] := hD
  have hK : va_K (dC, dI) vwCl [(d53, .int), (crf, .int), (co, .long)] s := hK
  refine W.widen (k := 6561) (n := 850836) (by omega) (by omega) ?_
  obtain rfl : r102 = 0 := hw
  refine lv_istore (lv' := [(6, .int 0), (5, .int 1), (4, .int 0), (3, .ref o0), (2, .ref y0), (1, .ref x0), (0, .ref b)]) hx hb dL_law_1839 hl (by decide) rfl (fun ls hl => ?_)
  refine lv_aload_n hx hb dL_law_1841 rfl (lv_at hl 4 rfl) ?_
  have hPc := hP.sub (ws' := [(y0, .inr (10, [.int 1, .ref m1, .int 0, .int 0, .int 0, .int (-1), .int 0, .int 0, .ref m8, .int 0, .int 0, .ref m11, .ref m12, .ref m13, .ref m14, .ref m15, .ref m16, .ref m17, .ref m18, .ref m19, .ref m20, .ref m21, .int 0, .int 0, .int 0, .ref m25, .ref m26, .int 0, .int 0, .ref m29, .ref m30, .ref m31, .ref m32, .int 0, .ref m34, .ref m35, .ref m36, .ref m37, .int 0, .int 0, .ref m40, .ref m41, .ref m42, .ref m43, .ref m44, .ref m45, .ref m46, .ref m47, .ref m48, .ref m49, .ref m50, .ref m51, .ref m52]))]) [0] rfl
  have hDc := hD.sub (ws' := [(y0, .inr (10, [.int 1, .ref m1, .int 0, .int 0, .int 0, .int (-1), .int 0, .int 0, .ref m8, .int 0, .int 0, .ref m11, .ref m12, .ref m13, .ref m14, .ref m15, .ref m16, .ref m17, .ref m18, .ref m19, .ref m20, .ref m21, .int 0, .int 0, .int 0, .ref m25, .ref m26, .int 0, .int 0, .ref m29, .ref m30, .ref m31, .ref m32, .int 0, .ref m34, .ref m35, .ref m36, .ref m37, .int 0, .int 0, .ref m40, .ref m41, .ref m42, .ref m43, .ref m44, .ref m45, .ref m46, .ref m47, .ref m48, .ref m49, .ref m50, .ref m51, .ref m52]))]) [0] (by decide) rfl
  have hKc := hK.sub (tys' := []) [] rfl
  have hFc := va_free (wc := [(y0, .inr (10, [.int 1, .ref m1, .int 0, .int 0, .int 0, .int (-1), .int 0, .int 0, .ref m8, .int 0, .int 0, .ref m11, .ref m12, .ref m13, .ref m14, .ref m15, .ref m16, .ref m17, .ref m18, .ref m19, .ref m20, .ref m21, .int 0, .int 0, .int 0, .ref m25, .ref m26, .int 0, .int 0, .ref m29, .ref m30, .ref m31, .ref m32, .int 0, .ref m34, .ref m35, .ref m36, .ref m37, .int 0, .int 0, .ref m40, .ref m41, .ref m42, .ref m43, .ref m44, .ref m45, .ref m46, .ref m47, .ref m48, .ref m49, .ref m50, .ref m51, .ref m52]))]) hD hS hA [0] rfl
  refine va_calli (va_runV (As := []) (rest := []) ⟨hx, hb, hml, hown, hts⟩ (m_thrown l dC dI H.size (y0) (1) (m1) (0) (0) (0) ((-1)) (0) (0) (m8) (0) (0) (m11) (m12) (m13) (m14) (m15) (m16) (m17) (m18) (m19) (m20) (m21) (0) (0) (0) (m25) (m26) (0) (0) (m29) (m30) (m31) (m32) (0) (m34) (m35) (m36) (m37) (0) (0) (m40) (m41) (m42) (m43) (m44) (m45) (m46) (m47) (m48) (m49) (m50) (m51) (m52)) (cwV 0 hts (gV_G k1327 k1328 k1329 k13 k1330) rfl rfl rfl (by decide +kernel) ⟨Nat.le_of_ble_eq_true rfl, Nat.le_of_ble_eq_true rfl⟩) ⟨fun a U g mk q => by obtain ⟨q0, q1, qP, qK, qD⟩ := q; exact ⟨q0, q1, qP, va_K.moved (u := U) (U := U.calling g mk a) (Vm.Alike.refl U.vm) qK, qD⟩, va_recv hKc hPc (ci := 10) (q0 := 0) rfl rfl, fun U hU hW => ⟨rfl, by rw [hU], by rw [hU]; exact hPc, va_K.moved hW.alike hKc, hDc.weaken (fun _ _ _ _ => trivial)⟩⟩ rfl rfl hl.1 rfl (lv_room (Nat.le_of_ble_eq_true rfl)) dL_law_1842 ⟨Nat.le_of_ble_eq_true rfl, Nat.le_of_ble_eq_true rfl⟩) hS (fun q _ h => hFc q h) hFc (fun r103 u t H1 locs ht hvm hw hB hz1 hk1 hS => ?_)
  obtain ⟨hP1, hK1, hD1⟩ := hB
  rw [ht] at hP1
  have hK1 := va_K.moved hvm.symm hK1
  try dsimp only at hw
  obtain ⟨hP, hD⟩ := va_join (wr := []) (w1 := []) hP hD [0] [] rfl rfl (by decide) (by decide) hk1 hFc hP1 hD1
  have hK := hK.app hK1
  generalize H1 = H at hP hS ⊢
  have hP : va_P (dC, dI) vwCl [] H := hP
  have hD : va_D A [] := hD
  have hK : va_K (dC, dI) vwCl [(d53, .int), (crf, .int), (co, .long)] s := hK
  refine W.widen (k := 6561) (n := 850836) (by omega) (by omega) ?_
  obtain rfl : r103 = 1 := hw
  refine lv_iload hx hb dL_law_1845 (lv_at hl 1 rfl) ?_
  refine lv_icmp_eq (tgt := 1852) hx hb dL_law_1847 (by decide) (fun _ => ?_) (fun c9 => absurd (by decide +kernel) c9)
  refine lv_iload hx hb dL_law_1852 (lv_at hl 1 rfl) ?_
  refine lv_if_ne (tgt := 1869) hx hb dL_law_1854 (by decide) (fun _ => ?_) (fun c9 => absurd c9 (by decide +kernel))
  refine lv_goto (tgt := 2301) hx hb dL_law_1869 (by decide) ?_
  refine W.widen (k := 6567) (n := 850872) (by omega) (by omega) ?_
  exact hend H locs ls hS (lv_sub hl [2, 6] rfl)
set_option maxHeartbeats 4000000 in
set_option maxRecDepth 100000 in
theorem lc_common {p : Program} {l : Launch} {e : Env} {s : State} {m : MethodId} {below : List Frame} {meth : Method} {c : Code} {dC : Nat → ClassId} {dI : Nat → Nat → Nat} {A : Nat → Prop} {b : Nat} {xs : Nat → Int32} (C0 : lx_C p l s m c A b xs) {x0 w1 w6 w8 w15 w22 w26 w31 w35 w40 w48 w50 w52 y0 m1 m8 m11 m12 m13 m14 m15 m16 m17 m18 m19 m20 m21 m25 m26 m29 m30 m31 m32 m34 m35 m36 m37 m40 m41 m42 m43 m44 m45 m46 m47 m48 m49 m50 m51 m52 o0 : Nat} {d53 crf co : ClassId}  {v1 : Int32} {v2 : Int32} (hs1 : xs (1 : Int32).toNatClampNeg = v1) (hs2 : xs (2 : Int32).toNatClampNeg = v2)
    (hend : ∀ (H : Heap) (locs : List Loc) (ls : Array Slot), va_S A s.heap H locs → lv_has ls 7 [(4, .int 0), (0, .ref b)] → W p l e room_1 s m #[Value.ref b] below meth c H locs 6567 850872 (lw_Z below #[Value.ref b] s) (F0 m 2301 ls []))
    {H : Heap} {locs : List Loc} {ls : Array Slot} (hP : va_P (dC, dI) vwCl [(x0, .inr (9, [.ref w1, .ref w6, .int 0, .ref w8, .ref w15, .int 0, .int 0, .ref w22, .ref w26, .ref w31, .ref w35, .ref w40, .ref w48, .ref w50, .ref w52])), (w52, .inl (d53, 3, .inl (fun _ => 0))), (y0, .inr (10, [.int 0, .ref m1, .int 0, .int 0, .int 0, .int (-1), .int 0, .int 0, .ref m8, .int 0, .int 0, .ref m11, .ref m12, .ref m13, .ref m14, .ref m15, .ref m16, .ref m17, .ref m18, .ref m19, .ref m20, .ref m21, .int 0, .int 0, .int 0, .ref m25, .ref m26, .int 0, .int 0, .ref m29, .ref m30, .ref m31, .ref m32, .int 0, .ref m34, .ref m35, .ref m36, .ref m37, .int 0, .int 0, .ref m40, .ref m41, .ref m42, .ref m43, .ref m44, .ref m45, .ref m46, .ref m47, .ref m48, .ref m49, .ref m50, .ref m51, .ref m52])), (m1, .inl (crf, 3, .inl (fun _ => 0))), (o0, .inl (co, 1, .inr (.inl (fun _ => 0))))] H) (hD : va_D A [(x0, .inr (9, [.ref w1, .ref w6, .int 0, .ref w8, .ref w15, .int 0, .int 0, .ref w22, .ref w26, .ref w31, .ref w35, .ref w40, .ref w48, .ref w50, .ref w52])), (w52, .inl (d53, 3, .inl (fun _ => 0))), (y0, .inr (10, [.int 0, .ref m1, .int 0, .int 0, .int 0, .int (-1), .int 0, .int 0, .ref m8, .int 0, .int 0, .ref m11, .ref m12, .ref m13, .ref m14, .ref m15, .ref m16, .ref m17, .ref m18, .ref m19, .ref m20, .ref m21, .int 0, .int 0, .int 0, .ref m25, .ref m26, .int 0, .int 0, .ref m29, .ref m30, .ref m31, .ref m32, .int 0, .ref m34, .ref m35, .ref m36, .ref m37, .int 0, .int 0, .ref m40, .ref m41, .ref m42, .ref m43, .ref m44, .ref m45, .ref m46, .ref m47, .ref m48, .ref m49, .ref m50, .ref m51, .ref m52])), (m1, .inl (crf, 3, .inl (fun _ => 0))), (o0, .inl (co, 1, .inr (.inl (fun _ => 0))))]) (hK : va_K (dC, dI) vwCl [(d53, .int), (crf, .int), (co, .long)] s) (hS : va_S A s.heap H locs) (hl : lv_has ls 7 [(4, .int 0), (3, .ref o0), (2, .ref y0), (1, .ref x0), (0, .ref b)]) : W p l e room_1 s m #[Value.ref b] below meth c H locs 6559 850824 (lw_Z below #[Value.ref b] s) (F0 m 1928 ls []) := by
  obtain ⟨hfl, hx, hb, hml, hown, hts, hX, hbl, hbA, hA, hEx, hNc⟩ := C0
  refine lv_aload_n hx hb dL_law_1928 rfl (lv_at hl 3 rfl) ?_
  refine lv_aload_n hx hb dL_law_1929 rfl (lv_at hl 4 rfl) ?_
  refine lv_iload hx hb dL_law_1930 (lv_at hl 0 rfl) ?_
  refine lv_iconst (v := 1) hx hb dL_law_1932 (by decide) ?_
  refine lv_iadd hx hb dL_law_1933 ?_
  refine lv_topi (fun x9 ex9 => ?_)
  obtain rfl : x9 = 1 := ex9.trans (by decide +kernel)
  refine va_sld hx hb hX hbl hbA hS (by unfold vp_in; decide +kernel) dL_law_1934 ?_
  refine lv_topi (fun x9 ex9 => ?_)
  obtain rfl : v1 = x9 := (ex9.trans hs1).symm
  refine lv_aload_n hx hb dL_law_1935 rfl (lv_at hl 4 rfl) ?_
  refine lv_iload hx hb dL_law_1936 (lv_at hl 0 rfl) ?_
  refine lv_iconst (v := 2) hx hb dL_law_1938 (by decide) ?_
  refine lv_iadd hx hb dL_law_1939 ?_
  refine lv_topi (fun x9 ex9 => ?_)
  obtain rfl : x9 = 2 := ex9.trans (by decide +kernel)
  refine va_sld hx hb hX hbl hbA hS (by unfold vp_in; decide +kernel) dL_law_1940 ?_
  refine lv_topi (fun x9 ex9 => ?_)
  obtain rfl : v2 = x9 := (ex9.trans hs2).symm
  refine lv_aload_n hx hb dL_law_1941 rfl (lv_at hl 1 rfl) ?_
  have hPc := hP.sub (ws' := [(x0, .inr (9, [.ref w1, .ref w6, .int 0, .ref w8, .ref w15, .int 0, .int 0, .ref w22, .ref w26, .ref w31, .ref w35, .ref w40, .ref w48, .ref w50, .ref w52])), (w52, .inl (d53, 3, .inl (fun _ => 0))), (o0, .inl (co, 1, .inr (.inl (fun _ => 0))))]) [0, 1, 4] rfl
  have hDc := hD.sub (ws' := [(x0, .inr (9, [.ref w1, .ref w6, .int 0, .ref w8, .ref w15, .int 0, .int 0, .ref w22, .ref w26, .ref w31, .ref w35, .ref w40, .ref w48, .ref w50, .ref w52])), (w52, .inl (d53, 3, .inl (fun _ => 0))), (o0, .inl (co, 1, .inr (.inl (fun _ => 0))))]) [0, 1, 4] (by decide) rfl
  have hKc := hK.sub (tys' := [(d53, .int), (co, .long)]) [0, 2] rfl
  have hFc := va_free (wc := [(x0, .inr (9, [.ref w1, .ref w6, .int 0, .ref w8, .ref w15, .int 0, .int 0, .ref w22, .ref w26, .ref w31, .ref w35, .ref w40, .ref w48, .ref w50, .ref w52])), (w52, .inl (d53, 3, .inl (fun _ => 0))), (o0, .inl (co, 1, .inr (.inl (fun _ => 0))))]) hD hS hA [0, 1, 4] rfl
  refine va_calli (vx_runSW (hh := [(0, 10, 13, 20)]) (As := [.ref x0, .int v1, .int v2, .ref o0]) (rest := []) ⟨hx, hb, hml, hown, hts⟩ (w_common l hfl dC dI H.size (x0) (w1) (w6) (w8) (w15) (w22) (w26) (w31) (w35) (w40) (w48) (w50) (w52) (d53) (o0) (co) (v1) (v2)) (vx_cwSW 4 hts (gW_G k1115 k1116 k0 k1117) rfl rfl rfl (by decide +kernel) ⟨Nat.le_of_ble_eq_true rfl, Nat.le_of_ble_eq_true rfl⟩) ⟨fun a U g mk q => by obtain ⟨q0, q1, qP, qK, qD, qE⟩ := q; exact ⟨q0, q1, qP, va_K.moved (u := U) (U := U.calling g mk a) (Vm.Alike.refl U.vm) qK, qD, xX_call qE⟩, fun U hU hW => ⟨rfl, by rw [hU], by rw [hU]; exact hPc, va_K.moved hW.alike hKc, hDc.weaken (fun _ _ _ _ => trivial), xX_at hEx hS (fun q h => hFc q h) hU hW⟩⟩ rfl rfl hl.1 rfl (lv_room (Nat.le_of_ble_eq_true rfl)) dL_law_1942 ⟨Nat.le_of_ble_eq_true rfl, Nat.le_of_ble_eq_true rfl⟩) hS (fun q _ h => hFc q h) hFc (fun r101 u t H1 locs ht hvm hw hB hz1 hk1 hS => ?_)
  obtain ⟨hP1, hK1, hD1⟩ := hB
  rw [ht] at hP1
  have hK1 := va_K.moved hvm.symm hK1
  try dsimp only at hw
  obtain ⟨hP, hD⟩ := va_join (wr := [(y0, .inr (10, [.int 0, .ref m1, .int 0, .int 0, .int 0, .int (-1), .int 0, .int 0, .ref m8, .int 0, .int 0, .ref m11, .ref m12, .ref m13, .ref m14, .ref m15, .ref m16, .ref m17, .ref m18, .ref m19, .ref m20, .ref m21, .int 0, .int 0, .int 0, .ref m25, .ref m26, .int 0, .int 0, .ref m29, .ref m30, .ref m31, .ref m32, .int 0, .ref m34, .ref m35, .ref m36, .ref m37, .int 0, .int 0, .ref m40, .ref m41, .ref m42, .ref m43, .ref m44, .ref m45, .ref m46, .ref m47, .ref m48, .ref m49, .ref m50, .ref m51, .ref m52])), (m1, .inl (crf, 3, .inl (fun _ => 0)))]) (w1 := []) hP hD [0, 1, 4] [2, 3] rfl rfl (by decide) (by decide) hk1 hFc hP1 hD1
  have hK := hK.app hK1
  generalize H1 = H at hP hS ⊢
  have hP : va_P (dC, dI) vwCl [(y0, .inr (10, [.int 0, .ref m1, .int 0, .int 0, .int 0, .int (-1), .int 0, .int 0, .ref m8, .int 0, .int 0, .ref m11, .ref m12, .ref m13, .ref m14, .ref m15, .ref m16, .ref m17, .ref m18, .ref m19, .ref m20, .ref m21, .int 0, .int 0, .int 0, .ref m25, .ref m26, .int 0, .int 0, .ref m29, .ref m30, .ref m31, .ref m32, .int 0, .ref m34, .ref m35, .ref m36, .ref m37, .int 0, .int 0, .ref m40, .ref m41, .ref m42, .ref m43, .ref m44, .ref m45, .ref m46, .ref m47, .ref m48, .ref m49, .ref m50, .ref m51, .ref m52])), (m1, .inl (crf, 3, .inl (fun _ => 0)))] H := hP
  have hD : va_D A [(y0, .inr (10, [.int 0, .ref m1, .int 0, .int 0, .int 0, .int (-1), .int 0, .int 0, .ref m8, .int 0, .int 0, .ref m11, .ref m12, .ref m13, .ref m14, .ref m15, .ref m16, .ref m17, .ref m18, .ref m19, .ref m20, .ref m21, .int 0, .int 0, .int 0, .ref m25, .ref m26, .int 0, .int 0, .ref m29, .ref m30, .ref m31, .ref m32, .int 0, .ref m34, .ref m35, .ref m36, .ref m37, .int 0, .int 0, .ref m40, .ref m41, .ref m42, .ref m43, .ref m44, .ref m45, .ref m46, .ref m47, .ref m48, .ref m49, .ref m50, .ref m51, .ref m52])), (m1, .inl (crf, 3, .inl (fun _ => 0)))] := hD
  have hK : va_K (dC, dI) vwCl [(d53, .int), (crf, .int), (co, .long)] s := hK
  refine W.widen (k := 6561) (n := 850836) (by omega) (by omega) ?_
  obtain rfl : r101 = 1 := hw
  refine lv_istore (lv' := [(5, .int 1), (4, .int 0), (3, .ref o0), (2, .ref y0), (1, .ref x0), (0, .ref b)]) hx hb dL_law_1945 hl (by decide) rfl (fun ls hl => ?_)
  refine lv_aload_n hx hb dL_law_1947 rfl (lv_at hl 3 rfl) ?_
  refine lv_aload_n hx hb dL_law_1948 rfl (lv_at hl 5 rfl) ?_
  refine lv_iload hx hb dL_law_1949 (lv_at hl 1 rfl) ?_
  refine lv_iconst (v := 1) hx hb dL_law_1951 (by decide) ?_
  refine lv_iadd hx hb dL_law_1952 ?_
  refine lv_topi (fun x9 ex9 => ?_)
  obtain rfl : x9 = 1 := ex9.trans (by decide +kernel)
  refine va_sld hx hb hX hbl hbA hS (by unfold vp_in; decide +kernel) dL_law_1953 ?_
  refine lv_topi (fun x9 ex9 => ?_)
  obtain rfl : v1 = x9 := (ex9.trans hs1).symm
  refine lv_aload_n hx hb dL_law_1954 rfl (lv_at hl 5 rfl) ?_
  refine lv_iload hx hb dL_law_1955 (lv_at hl 1 rfl) ?_
  refine lv_iconst (v := 2) hx hb dL_law_1957 (by decide) ?_
  refine lv_iadd hx hb dL_law_1958 ?_
  refine lv_topi (fun x9 ex9 => ?_)
  obtain rfl : x9 = 2 := ex9.trans (by decide +kernel)
  refine va_sld hx hb hX hbl hbA hS (by unfold vp_in; decide +kernel) dL_law_1959 ?_
  refine lv_topi (fun x9 ex9 => ?_)
  obtain rfl : v2 = x9 := (ex9.trans hs2).symm
  have hPc := hP.sub (ws' := [(y0, .inr (10, [.int 0, .ref m1, .int 0, .int 0, .int 0, .int (-1), .int 0, .int 0, .ref m8, .int 0, .int 0, .ref m11, .ref m12, .ref m13, .ref m14, .ref m15, .ref m16, .ref m17, .ref m18, .ref m19, .ref m20, .ref m21, .int 0, .int 0, .int 0, .ref m25, .ref m26, .int 0, .int 0, .ref m29, .ref m30, .ref m31, .ref m32, .int 0, .ref m34, .ref m35, .ref m36, .ref m37, .int 0, .int 0, .ref m40, .ref m41, .ref m42, .ref m43, .ref m44, .ref m45, .ref m46, .ref m47, .ref m48, .ref m49, .ref m50, .ref m51, .ref m52])), (m1, .inl (crf, 3, .inl (fun _ => 0)))]) [0, 1] rfl
  have hDc := hD.sub (ws' := [(y0, .inr (10, [.int 0, .ref m1, .int 0, .int 0, .int 0, .int (-1), .int 0, .int 0, .ref m8, .int 0, .int 0, .ref m11, .ref m12, .ref m13, .ref m14, .ref m15, .ref m16, .ref m17, .ref m18, .ref m19, .ref m20, .ref m21, .int 0, .int 0, .int 0, .ref m25, .ref m26, .int 0, .int 0, .ref m29, .ref m30, .ref m31, .ref m32, .int 0, .ref m34, .ref m35, .ref m36, .ref m37, .int 0, .int 0, .ref m40, .ref m41, .ref m42, .ref m43, .ref m44, .ref m45, .ref m46, .ref m47, .ref m48, .ref m49, .ref m50, .ref m51, .ref m52])), (m1, .inl (crf, 3, .inl (fun _ => 0)))]) [0, 1] (by decide) rfl
  have hKc := hK.sub (tys' := [(crf, .int)]) [1] rfl
  have hFc := va_free (wc := [(y0, .inr (10, [.int 0, .ref m1, .int 0, .int 0, .int 0, .int (-1), .int 0, .int 0, .ref m8, .int 0, .int 0, .ref m11, .ref m12, .ref m13, .ref m14, .ref m15, .ref m16, .ref m17, .ref m18, .ref m19, .ref m20, .ref m21, .int 0, .int 0, .int 0, .ref m25, .ref m26, .int 0, .int 0, .ref m29, .ref m30, .ref m31, .ref m32, .int 0, .ref m34, .ref m35, .ref m36, .ref m37, .int 0, .int 0, .ref m40, .ref m41, .ref m42, .ref m43, .ref m44, .ref m45, .ref m46, .ref m47, .ref m48, .ref m49, .ref m50, .ref m51, .ref m52])), (m1, .inl (crf, 3, .inl (fun _ => 0)))]) hD hS hA [0, 1] rfl
  refine va_calli (va_runV (As := [.int v1, .int v2]) (rest := []) ⟨hx, hb, hml, hown, hts⟩ (m_common l dC dI H.size (y0) (m1) (m8) (m11) (m12) (m13) (m14) (m15) (m16) (m17) (m18) (m19) (m20) (m21) (m25) (m26) (m29) (m30) (m31) (m32) (m34) (m35) (m36) (m37) (m40) (m41) (m42) (m43) (m44) (m45) (m46) (m47) (m48) (m49) (m50) (m51) (m52) (crf) (v1) (v2)) (cwV 2 hts (gV_G k1751 k1752 k1753 k13 k1754) rfl rfl rfl (by decide +kernel) ⟨Nat.le_of_ble_eq_true rfl, Nat.le_of_ble_eq_true rfl⟩) ⟨fun a U g mk q => by obtain ⟨q0, q1, qP, qK, qD⟩ := q; exact ⟨q0, q1, qP, va_K.moved (u := U) (U := U.calling g mk a) (Vm.Alike.refl U.vm) qK, qD⟩, va_recv hKc hPc (ci := 10) (q0 := 0) rfl rfl, fun U hU hW => ⟨rfl, by rw [hU], by rw [hU]; exact hPc, va_K.moved hW.alike hKc, hDc.weaken (fun _ _ _ _ => trivial)⟩⟩ rfl rfl hl.1 rfl (lv_room (Nat.le_of_ble_eq_true rfl)) dL_law_1960 ⟨Nat.le_of_ble_eq_true rfl, Nat.le_of_ble_eq_true rfl⟩) hS (fun q _ h => hFc q h) hFc (fun r102 u t H1 locs ht hvm hw hB hz1 hk1 hS => ?_)
  obtain ⟨hP1, hK1, hD1⟩ := hB
  rw [ht] at hP1
  have hK1 := va_K.moved hvm.symm hK1
  try dsimp only at hw
  obtain ⟨hP, hD⟩ := va_join (wr := []) (w1 := [(y0, .inr (10, [.int 1, .ref m1, .int 0, .int 0, .int 0, .int (-1), .int 0, .int 0, .ref m8, .int 0, .int 0, .ref m11, .ref m12, .ref m13, .ref m14, .ref m15, .ref m16, .ref m17, .ref m18, .ref m19, .ref m20, .ref m21, .int 0, .int 0, .int 0, .ref m25, .ref m26, .int 0, .int 0, .ref m29, .ref m30, .ref m31, .ref m32, .int 0, .ref m34, .ref m35, .ref m36, .ref m37, .int 0, .int 0, .ref m40, .ref m41, .ref m42, .ref m43, .ref m44, .ref m45, .ref m46, .ref m47, .ref m48, .ref m49, .ref m50, .ref m51, .ref m52]))]) hP hD [0, 1] [] rfl rfl (by decide) (by decide) hk1 hFc hP1 hD1
  have hK := hK.app hK1
  generalize H1 = H at hP hS ⊢
  have hP : va_P (dC, dI) vwCl [(y0, .inr (10, [.int 1, .ref m1, .int 0, .int 0, .int 0, .int (-1), .int 0, .int 0, .ref m8, .int 0, .int 0, .ref m11, .ref m12, .ref m13, .ref m14, .ref m15, .ref m16, .ref m17, .ref m18, .ref m19, .ref m20, .ref m21, .int 0, .int 0, .int 0, .ref m25, .ref m26, .int 0, .int 0, .ref m29, .ref m30, .ref m31, .ref m32, .int 0, .ref m34, .ref m35, .ref m36, .ref m37, .int 0, .int 0, .ref m40, .ref m41, .ref m42, .ref m43, .ref m44, .ref m45, .ref m46, .ref m47, .ref m48, .ref m49, .ref m50, .ref m51, .ref m52]))] H := hP
  have hD : va_D A [(y0, .inr (10, [.int 1, .ref m1, .int 0, .int 0, .int 0, .int (-1), .int 0, .int 0, .ref m8, .int 0, .int 0, .ref m11, .ref m12, .ref m13, .ref m14, .ref m15, .ref m16, .ref m17, .ref m18, .ref m19, .ref m20, .ref m21, .int 0, .int 0, .int 0, .ref m25, .ref m26, .int 0, .int 0, .ref m29, .ref m30, .ref m31, .ref m32, .int 0, .ref m34, .ref m35, .ref m36, .ref m37, .int 0, .int 0, .ref m40, .ref m41, .ref m42, .ref m43, .ref m44, .ref m45, .ref m46, .ref m47, .ref m48, .ref m49, .ref m50, .ref m51, .ref m52]))] := hD
  have hK : va_K (dC, dI) vwCl [(d53, .int), (crf, .int), (co, .long)] s := hK
  refine W.widen (k := 6561) (n := 850836) (by omega) (by omega) ?_
  obtain rfl : r102 = 0 := hw
  refine lv_istore (lv' := [(6, .int 0), (5, .int 1), (4, .int 0), (3, .ref o0), (2, .ref y0), (1, .ref x0), (0, .ref b)]) hx hb dL_law_1963 hl (by decide) rfl (fun ls hl => ?_)
  refine lv_aload_n hx hb dL_law_1965 rfl (lv_at hl 4 rfl) ?_
  have hPc := hP.sub (ws' := [(y0, .inr (10, [.int 1, .ref m1, .int 0, .int 0, .int 0, .int (-1), .int 0, .int 0, .ref m8, .int 0, .int 0, .ref m11, .ref m12, .ref m13, .ref m14, .ref m15, .ref m16, .ref m17, .ref m18, .ref m19, .ref m20, .ref m21, .int 0, .int 0, .int 0, .ref m25, .ref m26, .int 0, .int 0, .ref m29, .ref m30, .ref m31, .ref m32, .int 0, .ref m34, .ref m35, .ref m36, .ref m37, .int 0, .int 0, .ref m40, .ref m41, .ref m42, .ref m43, .ref m44, .ref m45, .ref m46, .ref m47, .ref m48, .ref m49, .ref m50, .ref m51, .ref m52]))]) [0] rfl
  have hDc := hD.sub (ws' := [(y0, .inr (10, [.int 1, .ref m1, .int 0, .int 0, .int 0, .int (-1), .int 0, .int 0, .ref m8, .int 0, .int 0, .ref m11, .ref m12, .ref m13, .ref m14, .ref m15, .ref m16, .ref m17, .ref m18, .ref m19, .ref m20, .ref m21, .int 0, .int 0, .int 0, .ref m25, .ref m26, .int 0, .int 0, .ref m29, .ref m30, .ref m31, .ref m32, .int 0, .ref m34, .ref m35, .ref m36, .ref m37, .int 0, .int 0, .ref m40, .ref m41, .ref m42, .ref m43, .ref m44, .ref m45, .ref m46, .ref m47, .ref m48, .ref m49, .ref m50, .ref m51, .ref m52]))]) [0] (by decide) rfl
  have hKc := hK.sub (tys' := []) [] rfl
  have hFc := va_free (wc := [(y0, .inr (10, [.int 1, .ref m1, .int 0, .int 0, .int 0, .int (-1), .int 0, .int 0, .ref m8, .int 0, .int 0, .ref m11, .ref m12, .ref m13, .ref m14, .ref m15, .ref m16, .ref m17, .ref m18, .ref m19, .ref m20, .ref m21, .int 0, .int 0, .int 0, .ref m25, .ref m26, .int 0, .int 0, .ref m29, .ref m30, .ref m31, .ref m32, .int 0, .ref m34, .ref m35, .ref m36, .ref m37, .int 0, .int 0, .ref m40, .ref m41, .ref m42, .ref m43, .ref m44, .ref m45, .ref m46, .ref m47, .ref m48, .ref m49, .ref m50, .ref m51, .ref m52]))]) hD hS hA [0] rfl
  refine va_calli (va_runV (As := []) (rest := []) ⟨hx, hb, hml, hown, hts⟩ (m_thrown l dC dI H.size (y0) (1) (m1) (0) (0) (0) ((-1)) (0) (0) (m8) (0) (0) (m11) (m12) (m13) (m14) (m15) (m16) (m17) (m18) (m19) (m20) (m21) (0) (0) (0) (m25) (m26) (0) (0) (m29) (m30) (m31) (m32) (0) (m34) (m35) (m36) (m37) (0) (0) (m40) (m41) (m42) (m43) (m44) (m45) (m46) (m47) (m48) (m49) (m50) (m51) (m52)) (cwV 0 hts (gV_G k1327 k1328 k1329 k13 k1330) rfl rfl rfl (by decide +kernel) ⟨Nat.le_of_ble_eq_true rfl, Nat.le_of_ble_eq_true rfl⟩) ⟨fun a U g mk q => by obtain ⟨q0, q1, qP, qK, qD⟩ := q; exact ⟨q0, q1, qP, va_K.moved (u := U) (U := U.calling g mk a) (Vm.Alike.refl U.vm) qK, qD⟩, va_recv hKc hPc (ci := 10) (q0 := 0) rfl rfl, fun U hU hW => ⟨rfl, by rw [hU], by rw [hU]; exact hPc, va_K.moved hW.alike hKc, hDc.weaken (fun _ _ _ _ => trivial)⟩⟩ rfl rfl hl.1 rfl (lv_room (Nat.le_of_ble_eq_true rfl)) dL_law_1966 ⟨Nat.le_of_ble_eq_true rfl, Nat.le_of_ble_eq_true rfl⟩) hS (fun q _ h => hFc q h) hFc (fun r103 u t H1 locs ht hvm hw hB hz1 hk1 hS => ?_)
  obtain ⟨hP1, hK1, hD1⟩ := hB
  rw [ht] at hP1
  have hK1 := va_K.moved hvm.symm hK1
  try dsimp only at hw
  obtain ⟨hP, hD⟩ := va_join (wr := []) (w1 := []) hP hD [0] [] rfl rfl (by decide) (by decide) hk1 hFc hP1 hD1
  have hK := hK.app hK1
  generalize H1 = H at hP hS ⊢
  have hP : va_P (dC, dI) vwCl [] H := hP
  have hD : va_D A [] := hD
  have hK : va_K (dC, dI) vwCl [(d53, .int), (crf, .int), (co, .long)] s := hK
  refine W.widen (k := 6561) (n := 850836) (by omega) (by omega) ?_
  obtain rfl : r103 = 1 := hw
  refine lv_iload hx hb dL_law_1969 (lv_at hl 1 rfl) ?_
  refine lv_icmp_eq (tgt := 1976) hx hb dL_law_1971 (by decide) (fun _ => ?_) (fun c9 => absurd (by decide +kernel) c9)
  refine lv_iload hx hb dL_law_1976 (lv_at hl 1 rfl) ?_
  refine lv_if_ne (tgt := 1993) hx hb dL_law_1978 (by decide) (fun _ => ?_) (fun c9 => absurd c9 (by decide +kernel))
  refine lv_goto (tgt := 2301) hx hb dL_law_1993 (by decide) ?_
  refine W.widen (k := 6567) (n := 850872) (by omega) (by omega) ?_
  exact hend H locs ls hS (lv_sub hl [2, 6] rfl)
set_option maxHeartbeats 4000000 in
set_option maxRecDepth 100000 in
theorem lc_similar {p : Program} {l : Launch} {e : Env} {s : State} {m : MethodId} {below : List Frame} {meth : Method} {c : Code} {dC : Nat → ClassId} {dI : Nat → Nat → Nat} {A : Nat → Prop} {b : Nat} {xs : Nat → Int32} (C0 : lx_C p l s m c A b xs) {x0 w1 w6 w8 w15 w22 w26 w31 w35 w40 w48 w50 w52 y0 m1 m8 m11 m12 m13 m14 m15 m16 m17 m18 m19 m20 m21 m25 m26 m29 m30 m31 m32 m34 m35 m36 m37 m40 m41 m42 m43 m44 m45 m46 m47 m48 m49 m50 m51 m52 o0 : Nat} {d53 crf co : ClassId}  {v1 : Int32} {v2 : Int32} (hs1 : xs (1 : Int32).toNatClampNeg = v1) (hs2 : xs (2 : Int32).toNatClampNeg = v2)
    (hend : ∀ (H : Heap) (locs : List Loc) (ls : Array Slot), va_S A s.heap H locs → lv_has ls 7 [(4, .int 0), (0, .ref b)] → W p l e room_1 s m #[Value.ref b] below meth c H locs 6567 850872 (lw_Z below #[Value.ref b] s) (F0 m 2301 ls []))
    {H : Heap} {locs : List Loc} {ls : Array Slot} (hP : va_P (dC, dI) vwCl [(x0, .inr (9, [.ref w1, .ref w6, .int 0, .ref w8, .ref w15, .int 0, .int 0, .ref w22, .ref w26, .ref w31, .ref w35, .ref w40, .ref w48, .ref w50, .ref w52])), (w52, .inl (d53, 3, .inl (fun _ => 0))), (y0, .inr (10, [.int 0, .ref m1, .int 0, .int 0, .int 0, .int (-1), .int 0, .int 0, .ref m8, .int 0, .int 0, .ref m11, .ref m12, .ref m13, .ref m14, .ref m15, .ref m16, .ref m17, .ref m18, .ref m19, .ref m20, .ref m21, .int 0, .int 0, .int 0, .ref m25, .ref m26, .int 0, .int 0, .ref m29, .ref m30, .ref m31, .ref m32, .int 0, .ref m34, .ref m35, .ref m36, .ref m37, .int 0, .int 0, .ref m40, .ref m41, .ref m42, .ref m43, .ref m44, .ref m45, .ref m46, .ref m47, .ref m48, .ref m49, .ref m50, .ref m51, .ref m52])), (m1, .inl (crf, 3, .inl (fun _ => 0))), (o0, .inl (co, 1, .inr (.inl (fun _ => 0))))] H) (hD : va_D A [(x0, .inr (9, [.ref w1, .ref w6, .int 0, .ref w8, .ref w15, .int 0, .int 0, .ref w22, .ref w26, .ref w31, .ref w35, .ref w40, .ref w48, .ref w50, .ref w52])), (w52, .inl (d53, 3, .inl (fun _ => 0))), (y0, .inr (10, [.int 0, .ref m1, .int 0, .int 0, .int 0, .int (-1), .int 0, .int 0, .ref m8, .int 0, .int 0, .ref m11, .ref m12, .ref m13, .ref m14, .ref m15, .ref m16, .ref m17, .ref m18, .ref m19, .ref m20, .ref m21, .int 0, .int 0, .int 0, .ref m25, .ref m26, .int 0, .int 0, .ref m29, .ref m30, .ref m31, .ref m32, .int 0, .ref m34, .ref m35, .ref m36, .ref m37, .int 0, .int 0, .ref m40, .ref m41, .ref m42, .ref m43, .ref m44, .ref m45, .ref m46, .ref m47, .ref m48, .ref m49, .ref m50, .ref m51, .ref m52])), (m1, .inl (crf, 3, .inl (fun _ => 0))), (o0, .inl (co, 1, .inr (.inl (fun _ => 0))))]) (hK : va_K (dC, dI) vwCl [(d53, .int), (crf, .int), (co, .long)] s) (hS : va_S A s.heap H locs) (hl : lv_has ls 7 [(4, .int 0), (3, .ref o0), (2, .ref y0), (1, .ref x0), (0, .ref b)]) : W p l e room_1 s m #[Value.ref b] below meth c H locs 6559 850824 (lw_Z below #[Value.ref b] s) (F0 m 1996 ls []) := by
  obtain ⟨hfl, hx, hb, hml, hown, hts, hX, hbl, hbA, hA, hEx, hNc⟩ := C0
  refine lv_aload_n hx hb dL_law_1996 rfl (lv_at hl 3 rfl) ?_
  refine lv_aload_n hx hb dL_law_1997 rfl (lv_at hl 4 rfl) ?_
  refine lv_iload hx hb dL_law_1998 (lv_at hl 0 rfl) ?_
  refine lv_iconst (v := 1) hx hb dL_law_2000 (by decide) ?_
  refine lv_iadd hx hb dL_law_2001 ?_
  refine lv_topi (fun x9 ex9 => ?_)
  obtain rfl : x9 = 1 := ex9.trans (by decide +kernel)
  refine va_sld hx hb hX hbl hbA hS (by unfold vp_in; decide +kernel) dL_law_2002 ?_
  refine lv_topi (fun x9 ex9 => ?_)
  obtain rfl : v1 = x9 := (ex9.trans hs1).symm
  refine lv_aload_n hx hb dL_law_2003 rfl (lv_at hl 4 rfl) ?_
  refine lv_iload hx hb dL_law_2004 (lv_at hl 0 rfl) ?_
  refine lv_iconst (v := 2) hx hb dL_law_2006 (by decide) ?_
  refine lv_iadd hx hb dL_law_2007 ?_
  refine lv_topi (fun x9 ex9 => ?_)
  obtain rfl : x9 = 2 := ex9.trans (by decide +kernel)
  refine va_sld hx hb hX hbl hbA hS (by unfold vp_in; decide +kernel) dL_law_2008 ?_
  refine lv_topi (fun x9 ex9 => ?_)
  obtain rfl : v2 = x9 := (ex9.trans hs2).symm
  refine lv_aload_n hx hb dL_law_2009 rfl (lv_at hl 1 rfl) ?_
  have hPc := hP.sub (ws' := [(x0, .inr (9, [.ref w1, .ref w6, .int 0, .ref w8, .ref w15, .int 0, .int 0, .ref w22, .ref w26, .ref w31, .ref w35, .ref w40, .ref w48, .ref w50, .ref w52])), (w52, .inl (d53, 3, .inl (fun _ => 0))), (o0, .inl (co, 1, .inr (.inl (fun _ => 0))))]) [0, 1, 4] rfl
  have hDc := hD.sub (ws' := [(x0, .inr (9, [.ref w1, .ref w6, .int 0, .ref w8, .ref w15, .int 0, .int 0, .ref w22, .ref w26, .ref w31, .ref w35, .ref w40, .ref w48, .ref w50, .ref w52])), (w52, .inl (d53, 3, .inl (fun _ => 0))), (o0, .inl (co, 1, .inr (.inl (fun _ => 0))))]) [0, 1, 4] (by decide) rfl
  have hKc := hK.sub (tys' := [(d53, .int), (co, .long)]) [0, 2] rfl
  have hFc := va_free (wc := [(x0, .inr (9, [.ref w1, .ref w6, .int 0, .ref w8, .ref w15, .int 0, .int 0, .ref w22, .ref w26, .ref w31, .ref w35, .ref w40, .ref w48, .ref w50, .ref w52])), (w52, .inl (d53, 3, .inl (fun _ => 0))), (o0, .inl (co, 1, .inr (.inl (fun _ => 0))))]) hD hS hA [0, 1, 4] rfl
  refine va_calli (vx_runSW (hh := [(0, 17, 20, 20)]) (As := [.ref x0, .int v1, .int v2, .ref o0]) (rest := []) ⟨hx, hb, hml, hown, hts⟩ (w_similar l hfl dC dI H.size (x0) (w1) (w6) (w8) (w15) (w22) (w26) (w31) (w35) (w40) (w48) (w50) (w52) (d53) (o0) (co) (v1) (v2)) (vx_cwSW 4 hts (gW_G k1128 k1129 k0 k1130) rfl rfl rfl (by decide +kernel) ⟨Nat.le_of_ble_eq_true rfl, Nat.le_of_ble_eq_true rfl⟩) ⟨fun a U g mk q => by obtain ⟨q0, q1, qP, qK, qD, qE⟩ := q; exact ⟨q0, q1, qP, va_K.moved (u := U) (U := U.calling g mk a) (Vm.Alike.refl U.vm) qK, qD, xX_call qE⟩, fun U hU hW => ⟨rfl, by rw [hU], by rw [hU]; exact hPc, va_K.moved hW.alike hKc, hDc.weaken (fun _ _ _ _ => trivial), xX_at hEx hS (fun q h => hFc q h) hU hW⟩⟩ rfl rfl hl.1 rfl (lv_room (Nat.le_of_ble_eq_true rfl)) dL_law_2010 ⟨Nat.le_of_ble_eq_true rfl, Nat.le_of_ble_eq_true rfl⟩) hS (fun q _ h => hFc q h) hFc (fun r101 u t H1 locs ht hvm hw hB hz1 hk1 hS => ?_)
  obtain ⟨hP1, hK1, hD1⟩ := hB
  rw [ht] at hP1
  have hK1 := va_K.moved hvm.symm hK1
  try dsimp only at hw
  obtain ⟨hP, hD⟩ := va_join (wr := [(y0, .inr (10, [.int 0, .ref m1, .int 0, .int 0, .int 0, .int (-1), .int 0, .int 0, .ref m8, .int 0, .int 0, .ref m11, .ref m12, .ref m13, .ref m14, .ref m15, .ref m16, .ref m17, .ref m18, .ref m19, .ref m20, .ref m21, .int 0, .int 0, .int 0, .ref m25, .ref m26, .int 0, .int 0, .ref m29, .ref m30, .ref m31, .ref m32, .int 0, .ref m34, .ref m35, .ref m36, .ref m37, .int 0, .int 0, .ref m40, .ref m41, .ref m42, .ref m43, .ref m44, .ref m45, .ref m46, .ref m47, .ref m48, .ref m49, .ref m50, .ref m51, .ref m52])), (m1, .inl (crf, 3, .inl (fun _ => 0)))]) (w1 := []) hP hD [0, 1, 4] [2, 3] rfl rfl (by decide) (by decide) hk1 hFc hP1 hD1
  have hK := hK.app hK1
  generalize H1 = H at hP hS ⊢
  have hP : va_P (dC, dI) vwCl [(y0, .inr (10, [.int 0, .ref m1, .int 0, .int 0, .int 0, .int (-1), .int 0, .int 0, .ref m8, .int 0, .int 0, .ref m11, .ref m12, .ref m13, .ref m14, .ref m15, .ref m16, .ref m17, .ref m18, .ref m19, .ref m20, .ref m21, .int 0, .int 0, .int 0, .ref m25, .ref m26, .int 0, .int 0, .ref m29, .ref m30, .ref m31, .ref m32, .int 0, .ref m34, .ref m35, .ref m36, .ref m37, .int 0, .int 0, .ref m40, .ref m41, .ref m42, .ref m43, .ref m44, .ref m45, .ref m46, .ref m47, .ref m48, .ref m49, .ref m50, .ref m51, .ref m52])), (m1, .inl (crf, 3, .inl (fun _ => 0)))] H := hP
  have hD : va_D A [(y0, .inr (10, [.int 0, .ref m1, .int 0, .int 0, .int 0, .int (-1), .int 0, .int 0, .ref m8, .int 0, .int 0, .ref m11, .ref m12, .ref m13, .ref m14, .ref m15, .ref m16, .ref m17, .ref m18, .ref m19, .ref m20, .ref m21, .int 0, .int 0, .int 0, .ref m25, .ref m26, .int 0, .int 0, .ref m29, .ref m30, .ref m31, .ref m32, .int 0, .ref m34, .ref m35, .ref m36, .ref m37, .int 0, .int 0, .ref m40, .ref m41, .ref m42, .ref m43, .ref m44, .ref m45, .ref m46, .ref m47, .ref m48, .ref m49, .ref m50, .ref m51, .ref m52])), (m1, .inl (crf, 3, .inl (fun _ => 0)))] := hD
  have hK : va_K (dC, dI) vwCl [(d53, .int), (crf, .int), (co, .long)] s := hK
  refine W.widen (k := 6561) (n := 850836) (by omega) (by omega) ?_
  obtain rfl : r101 = 1 := hw
  refine lv_istore (lv' := [(5, .int 1), (4, .int 0), (3, .ref o0), (2, .ref y0), (1, .ref x0), (0, .ref b)]) hx hb dL_law_2013 hl (by decide) rfl (fun ls hl => ?_)
  refine lv_aload_n hx hb dL_law_2015 rfl (lv_at hl 3 rfl) ?_
  refine lv_aload_n hx hb dL_law_2016 rfl (lv_at hl 5 rfl) ?_
  refine lv_iload hx hb dL_law_2017 (lv_at hl 1 rfl) ?_
  refine lv_iconst (v := 1) hx hb dL_law_2019 (by decide) ?_
  refine lv_iadd hx hb dL_law_2020 ?_
  refine lv_topi (fun x9 ex9 => ?_)
  obtain rfl : x9 = 1 := ex9.trans (by decide +kernel)
  refine va_sld hx hb hX hbl hbA hS (by unfold vp_in; decide +kernel) dL_law_2021 ?_
  refine lv_topi (fun x9 ex9 => ?_)
  obtain rfl : v1 = x9 := (ex9.trans hs1).symm
  refine lv_aload_n hx hb dL_law_2022 rfl (lv_at hl 5 rfl) ?_
  refine lv_iload hx hb dL_law_2023 (lv_at hl 1 rfl) ?_
  refine lv_iconst (v := 2) hx hb dL_law_2025 (by decide) ?_
  refine lv_iadd hx hb dL_law_2026 ?_
  refine lv_topi (fun x9 ex9 => ?_)
  obtain rfl : x9 = 2 := ex9.trans (by decide +kernel)
  refine va_sld hx hb hX hbl hbA hS (by unfold vp_in; decide +kernel) dL_law_2027 ?_
  refine lv_topi (fun x9 ex9 => ?_)
  obtain rfl : v2 = x9 := (ex9.trans hs2).symm
  have hPc := hP.sub (ws' := [(y0, .inr (10, [.int 0, .ref m1, .int 0, .int 0, .int 0, .int (-1), .int 0, .int 0, .ref m8, .int 0, .int 0, .ref m11, .ref m12, .ref m13, .ref m14, .ref m15, .ref m16, .ref m17, .ref m18, .ref m19, .ref m20, .ref m21, .int 0, .int 0, .int 0, .ref m25, .ref m26, .int 0, .int 0, .ref m29, .ref m30, .ref m31, .ref m32, .int 0, .ref m34, .ref m35, .ref m36, .ref m37, .int 0, .int 0, .ref m40, .ref m41, .ref m42, .ref m43, .ref m44, .ref m45, .ref m46, .ref m47, .ref m48, .ref m49, .ref m50, .ref m51, .ref m52])), (m1, .inl (crf, 3, .inl (fun _ => 0)))]) [0, 1] rfl
  have hDc := hD.sub (ws' := [(y0, .inr (10, [.int 0, .ref m1, .int 0, .int 0, .int 0, .int (-1), .int 0, .int 0, .ref m8, .int 0, .int 0, .ref m11, .ref m12, .ref m13, .ref m14, .ref m15, .ref m16, .ref m17, .ref m18, .ref m19, .ref m20, .ref m21, .int 0, .int 0, .int 0, .ref m25, .ref m26, .int 0, .int 0, .ref m29, .ref m30, .ref m31, .ref m32, .int 0, .ref m34, .ref m35, .ref m36, .ref m37, .int 0, .int 0, .ref m40, .ref m41, .ref m42, .ref m43, .ref m44, .ref m45, .ref m46, .ref m47, .ref m48, .ref m49, .ref m50, .ref m51, .ref m52])), (m1, .inl (crf, 3, .inl (fun _ => 0)))]) [0, 1] (by decide) rfl
  have hKc := hK.sub (tys' := [(crf, .int)]) [1] rfl
  have hFc := va_free (wc := [(y0, .inr (10, [.int 0, .ref m1, .int 0, .int 0, .int 0, .int (-1), .int 0, .int 0, .ref m8, .int 0, .int 0, .ref m11, .ref m12, .ref m13, .ref m14, .ref m15, .ref m16, .ref m17, .ref m18, .ref m19, .ref m20, .ref m21, .int 0, .int 0, .int 0, .ref m25, .ref m26, .int 0, .int 0, .ref m29, .ref m30, .ref m31, .ref m32, .int 0, .ref m34, .ref m35, .ref m36, .ref m37, .int 0, .int 0, .ref m40, .ref m41, .ref m42, .ref m43, .ref m44, .ref m45, .ref m46, .ref m47, .ref m48, .ref m49, .ref m50, .ref m51, .ref m52])), (m1, .inl (crf, 3, .inl (fun _ => 0)))]) hD hS hA [0, 1] rfl
  refine va_calli (va_runV (As := [.int v1, .int v2]) (rest := []) ⟨hx, hb, hml, hown, hts⟩ (m_similar l dC dI H.size (y0) (m1) (m8) (m11) (m12) (m13) (m14) (m15) (m16) (m17) (m18) (m19) (m20) (m21) (m25) (m26) (m29) (m30) (m31) (m32) (m34) (m35) (m36) (m37) (m40) (m41) (m42) (m43) (m44) (m45) (m46) (m47) (m48) (m49) (m50) (m51) (m52) (crf) (v1) (v2)) (cwV 2 hts (gV_G k1755 k1756 k1757 k13 k1758) rfl rfl rfl (by decide +kernel) ⟨Nat.le_of_ble_eq_true rfl, Nat.le_of_ble_eq_true rfl⟩) ⟨fun a U g mk q => by obtain ⟨q0, q1, qP, qK, qD⟩ := q; exact ⟨q0, q1, qP, va_K.moved (u := U) (U := U.calling g mk a) (Vm.Alike.refl U.vm) qK, qD⟩, va_recv hKc hPc (ci := 10) (q0 := 0) rfl rfl, fun U hU hW => ⟨rfl, by rw [hU], by rw [hU]; exact hPc, va_K.moved hW.alike hKc, hDc.weaken (fun _ _ _ _ => trivial)⟩⟩ rfl rfl hl.1 rfl (lv_room (Nat.le_of_ble_eq_true rfl)) dL_law_2028 ⟨Nat.le_of_ble_eq_true rfl, Nat.le_of_ble_eq_true rfl⟩) hS (fun q _ h => hFc q h) hFc (fun r102 u t H1 locs ht hvm hw hB hz1 hk1 hS => ?_)
  obtain ⟨hP1, hK1, hD1⟩ := hB
  rw [ht] at hP1
  have hK1 := va_K.moved hvm.symm hK1
  try dsimp only at hw
  obtain ⟨hP, hD⟩ := va_join (wr := []) (w1 := [(y0, .inr (10, [.int 1, .ref m1, .int 0, .int 0, .int 0, .int (-1), .int 0, .int 0, .ref m8, .int 0, .int 0, .ref m11, .ref m12, .ref m13, .ref m14, .ref m15, .ref m16, .ref m17, .ref m18, .ref m19, .ref m20, .ref m21, .int 0, .int 0, .int 0, .ref m25, .ref m26, .int 0, .int 0, .ref m29, .ref m30, .ref m31, .ref m32, .int 0, .ref m34, .ref m35, .ref m36, .ref m37, .int 0, .int 0, .ref m40, .ref m41, .ref m42, .ref m43, .ref m44, .ref m45, .ref m46, .ref m47, .ref m48, .ref m49, .ref m50, .ref m51, .ref m52]))]) hP hD [0, 1] [] rfl rfl (by decide) (by decide) hk1 hFc hP1 hD1
  have hK := hK.app hK1
  generalize H1 = H at hP hS ⊢
  have hP : va_P (dC, dI) vwCl [(y0, .inr (10, [.int 1, .ref m1, .int 0, .int 0, .int 0, .int (-1), .int 0, .int 0, .ref m8, .int 0, .int 0, .ref m11, .ref m12, .ref m13, .ref m14, .ref m15, .ref m16, .ref m17, .ref m18, .ref m19, .ref m20, .ref m21, .int 0, .int 0, .int 0, .ref m25, .ref m26, .int 0, .int 0, .ref m29, .ref m30, .ref m31, .ref m32, .int 0, .ref m34, .ref m35, .ref m36, .ref m37, .int 0, .int 0, .ref m40, .ref m41, .ref m42, .ref m43, .ref m44, .ref m45, .ref m46, .ref m47, .ref m48, .ref m49, .ref m50, .ref m51, .ref m52]))] H := hP
  have hD : va_D A [(y0, .inr (10, [.int 1, .ref m1, .int 0, .int 0, .int 0, .int (-1), .int 0, .int 0, .ref m8, .int 0, .int 0, .ref m11, .ref m12, .ref m13, .ref m14, .ref m15, .ref m16, .ref m17, .ref m18, .ref m19, .ref m20, .ref m21, .int 0, .int 0, .int 0, .ref m25, .ref m26, .int 0, .int 0, .ref m29, .ref m30, .ref m31, .ref m32, .int 0, .ref m34, .ref m35, .ref m36, .ref m37, .int 0, .int 0, .ref m40, .ref m41, .ref m42, .ref m43, .ref m44, .ref m45, .ref m46, .ref m47, .ref m48, .ref m49, .ref m50, .ref m51, .ref m52]))] := hD
  have hK : va_K (dC, dI) vwCl [(d53, .int), (crf, .int), (co, .long)] s := hK
  refine W.widen (k := 6561) (n := 850836) (by omega) (by omega) ?_
  obtain rfl : r102 = 0 := hw
  refine lv_istore (lv' := [(6, .int 0), (5, .int 1), (4, .int 0), (3, .ref o0), (2, .ref y0), (1, .ref x0), (0, .ref b)]) hx hb dL_law_2031 hl (by decide) rfl (fun ls hl => ?_)
  refine lv_aload_n hx hb dL_law_2033 rfl (lv_at hl 4 rfl) ?_
  have hPc := hP.sub (ws' := [(y0, .inr (10, [.int 1, .ref m1, .int 0, .int 0, .int 0, .int (-1), .int 0, .int 0, .ref m8, .int 0, .int 0, .ref m11, .ref m12, .ref m13, .ref m14, .ref m15, .ref m16, .ref m17, .ref m18, .ref m19, .ref m20, .ref m21, .int 0, .int 0, .int 0, .ref m25, .ref m26, .int 0, .int 0, .ref m29, .ref m30, .ref m31, .ref m32, .int 0, .ref m34, .ref m35, .ref m36, .ref m37, .int 0, .int 0, .ref m40, .ref m41, .ref m42, .ref m43, .ref m44, .ref m45, .ref m46, .ref m47, .ref m48, .ref m49, .ref m50, .ref m51, .ref m52]))]) [0] rfl
  have hDc := hD.sub (ws' := [(y0, .inr (10, [.int 1, .ref m1, .int 0, .int 0, .int 0, .int (-1), .int 0, .int 0, .ref m8, .int 0, .int 0, .ref m11, .ref m12, .ref m13, .ref m14, .ref m15, .ref m16, .ref m17, .ref m18, .ref m19, .ref m20, .ref m21, .int 0, .int 0, .int 0, .ref m25, .ref m26, .int 0, .int 0, .ref m29, .ref m30, .ref m31, .ref m32, .int 0, .ref m34, .ref m35, .ref m36, .ref m37, .int 0, .int 0, .ref m40, .ref m41, .ref m42, .ref m43, .ref m44, .ref m45, .ref m46, .ref m47, .ref m48, .ref m49, .ref m50, .ref m51, .ref m52]))]) [0] (by decide) rfl
  have hKc := hK.sub (tys' := []) [] rfl
  have hFc := va_free (wc := [(y0, .inr (10, [.int 1, .ref m1, .int 0, .int 0, .int 0, .int (-1), .int 0, .int 0, .ref m8, .int 0, .int 0, .ref m11, .ref m12, .ref m13, .ref m14, .ref m15, .ref m16, .ref m17, .ref m18, .ref m19, .ref m20, .ref m21, .int 0, .int 0, .int 0, .ref m25, .ref m26, .int 0, .int 0, .ref m29, .ref m30, .ref m31, .ref m32, .int 0, .ref m34, .ref m35, .ref m36, .ref m37, .int 0, .int 0, .ref m40, .ref m41, .ref m42, .ref m43, .ref m44, .ref m45, .ref m46, .ref m47, .ref m48, .ref m49, .ref m50, .ref m51, .ref m52]))]) hD hS hA [0] rfl
  refine va_calli (va_runV (As := []) (rest := []) ⟨hx, hb, hml, hown, hts⟩ (m_thrown l dC dI H.size (y0) (1) (m1) (0) (0) (0) ((-1)) (0) (0) (m8) (0) (0) (m11) (m12) (m13) (m14) (m15) (m16) (m17) (m18) (m19) (m20) (m21) (0) (0) (0) (m25) (m26) (0) (0) (m29) (m30) (m31) (m32) (0) (m34) (m35) (m36) (m37) (0) (0) (m40) (m41) (m42) (m43) (m44) (m45) (m46) (m47) (m48) (m49) (m50) (m51) (m52)) (cwV 0 hts (gV_G k1327 k1328 k1329 k13 k1330) rfl rfl rfl (by decide +kernel) ⟨Nat.le_of_ble_eq_true rfl, Nat.le_of_ble_eq_true rfl⟩) ⟨fun a U g mk q => by obtain ⟨q0, q1, qP, qK, qD⟩ := q; exact ⟨q0, q1, qP, va_K.moved (u := U) (U := U.calling g mk a) (Vm.Alike.refl U.vm) qK, qD⟩, va_recv hKc hPc (ci := 10) (q0 := 0) rfl rfl, fun U hU hW => ⟨rfl, by rw [hU], by rw [hU]; exact hPc, va_K.moved hW.alike hKc, hDc.weaken (fun _ _ _ _ => trivial)⟩⟩ rfl rfl hl.1 rfl (lv_room (Nat.le_of_ble_eq_true rfl)) dL_law_2034 ⟨Nat.le_of_ble_eq_true rfl, Nat.le_of_ble_eq_true rfl⟩) hS (fun q _ h => hFc q h) hFc (fun r103 u t H1 locs ht hvm hw hB hz1 hk1 hS => ?_)
  obtain ⟨hP1, hK1, hD1⟩ := hB
  rw [ht] at hP1
  have hK1 := va_K.moved hvm.symm hK1
  try dsimp only at hw
  obtain ⟨hP, hD⟩ := va_join (wr := []) (w1 := []) hP hD [0] [] rfl rfl (by decide) (by decide) hk1 hFc hP1 hD1
  have hK := hK.app hK1
  generalize H1 = H at hP hS ⊢
  have hP : va_P (dC, dI) vwCl [] H := hP
  have hD : va_D A [] := hD
  have hK : va_K (dC, dI) vwCl [(d53, .int), (crf, .int), (co, .long)] s := hK
  refine W.widen (k := 6561) (n := 850836) (by omega) (by omega) ?_
  obtain rfl : r103 = 1 := hw
  refine lv_iload hx hb dL_law_2037 (lv_at hl 1 rfl) ?_
  refine lv_icmp_eq (tgt := 2044) hx hb dL_law_2039 (by decide) (fun _ => ?_) (fun c9 => absurd (by decide +kernel) c9)
  refine lv_iload hx hb dL_law_2044 (lv_at hl 1 rfl) ?_
  refine lv_if_ne (tgt := 2068) hx hb dL_law_2046 (by decide) (fun _ => ?_) (fun c9 => absurd c9 (by decide +kernel))
  refine lv_goto (tgt := 2301) hx hb dL_law_2068 (by decide) ?_
  refine W.widen (k := 6567) (n := 850872) (by omega) (by omega) ?_
  exact hend H locs ls hS (lv_sub hl [2, 6] rfl)
set_option maxHeartbeats 4000000 in
set_option maxRecDepth 100000 in
theorem lc_step {p : Program} {l : Launch} {e : Env} {s : State} {m : MethodId} {below : List Frame} {meth : Method} {c : Code} {dC : Nat → ClassId} {dI : Nat → Nat → Nat} {A : Nat → Prop} {b : Nat} {xs : Nat → Int32} (C0 : lx_C p l s m c A b xs) {x0 w1 w6 w8 w15 w22 w26 w31 w35 w40 w48 w50 w52 y0 m1 m8 m11 m12 m13 m14 m15 m16 m17 m18 m19 m20 m21 m25 m26 m29 m30 m31 m32 m34 m35 m36 m37 m40 m41 m42 m43 m44 m45 m46 m47 m48 m49 m50 m51 m52 o0 : Nat} {d53 crf co : ClassId}  {v1 : Int32} {v2 : Int32} {v3 : Int32} (hs1 : xs (1 : Int32).toNatClampNeg = v1) (hs2 : xs (2 : Int32).toNatClampNeg = v2) (hs3 : xs (3 : Int32).toNatClampNeg = v3)
    (hend : ∀ (H : Heap) (locs : List Loc) (ls : Array Slot), va_S A s.heap H locs → lv_has ls 7 [(4, .int 0), (0, .ref b)] → W p l e room_1 s m #[Value.ref b] below meth c H locs 6567 850872 (lw_Z below #[Value.ref b] s) (F0 m 2301 ls []))
    {H : Heap} {locs : List Loc} {ls : Array Slot} (hP : va_P (dC, dI) vwCl [(x0, .inr (9, [.ref w1, .ref w6, .int 0, .ref w8, .ref w15, .int 0, .int 0, .ref w22, .ref w26, .ref w31, .ref w35, .ref w40, .ref w48, .ref w50, .ref w52])), (w52, .inl (d53, 3, .inl (fun _ => 0))), (y0, .inr (10, [.int 0, .ref m1, .int 0, .int 0, .int 0, .int (-1), .int 0, .int 0, .ref m8, .int 0, .int 0, .ref m11, .ref m12, .ref m13, .ref m14, .ref m15, .ref m16, .ref m17, .ref m18, .ref m19, .ref m20, .ref m21, .int 0, .int 0, .int 0, .ref m25, .ref m26, .int 0, .int 0, .ref m29, .ref m30, .ref m31, .ref m32, .int 0, .ref m34, .ref m35, .ref m36, .ref m37, .int 0, .int 0, .ref m40, .ref m41, .ref m42, .ref m43, .ref m44, .ref m45, .ref m46, .ref m47, .ref m48, .ref m49, .ref m50, .ref m51, .ref m52])), (m1, .inl (crf, 3, .inl (fun _ => 0))), (o0, .inl (co, 1, .inr (.inl (fun _ => 0))))] H) (hD : va_D A [(x0, .inr (9, [.ref w1, .ref w6, .int 0, .ref w8, .ref w15, .int 0, .int 0, .ref w22, .ref w26, .ref w31, .ref w35, .ref w40, .ref w48, .ref w50, .ref w52])), (w52, .inl (d53, 3, .inl (fun _ => 0))), (y0, .inr (10, [.int 0, .ref m1, .int 0, .int 0, .int 0, .int (-1), .int 0, .int 0, .ref m8, .int 0, .int 0, .ref m11, .ref m12, .ref m13, .ref m14, .ref m15, .ref m16, .ref m17, .ref m18, .ref m19, .ref m20, .ref m21, .int 0, .int 0, .int 0, .ref m25, .ref m26, .int 0, .int 0, .ref m29, .ref m30, .ref m31, .ref m32, .int 0, .ref m34, .ref m35, .ref m36, .ref m37, .int 0, .int 0, .ref m40, .ref m41, .ref m42, .ref m43, .ref m44, .ref m45, .ref m46, .ref m47, .ref m48, .ref m49, .ref m50, .ref m51, .ref m52])), (m1, .inl (crf, 3, .inl (fun _ => 0))), (o0, .inl (co, 1, .inr (.inl (fun _ => 0))))]) (hK : va_K (dC, dI) vwCl [(d53, .int), (crf, .int), (co, .long)] s) (hS : va_S A s.heap H locs) (hl : lv_has ls 7 [(4, .int 0), (3, .ref o0), (2, .ref y0), (1, .ref x0), (0, .ref b)]) : W p l e room_1 s m #[Value.ref b] below meth c H locs 6559 850824 (lw_Z below #[Value.ref b] s) (F0 m 2071 ls []) := by
  obtain ⟨hfl, hx, hb, hml, hown, hts, hX, hbl, hbA, hA, hEx, hNc⟩ := C0
  refine lv_aload_n hx hb dL_law_2071 rfl (lv_at hl 3 rfl) ?_
  refine lv_aload_n hx hb dL_law_2072 rfl (lv_at hl 4 rfl) ?_
  refine lv_iload hx hb dL_law_2073 (lv_at hl 0 rfl) ?_
  refine lv_iconst (v := 1) hx hb dL_law_2075 (by decide) ?_
  refine lv_iadd hx hb dL_law_2076 ?_
  refine lv_topi (fun x9 ex9 => ?_)
  obtain rfl : x9 = 1 := ex9.trans (by decide +kernel)
  refine va_sld hx hb hX hbl hbA hS (by unfold vp_in; decide +kernel) dL_law_2077 ?_
  refine lv_topi (fun x9 ex9 => ?_)
  obtain rfl : v1 = x9 := (ex9.trans hs1).symm
  refine lv_aload_n hx hb dL_law_2078 rfl (lv_at hl 4 rfl) ?_
  refine lv_iload hx hb dL_law_2079 (lv_at hl 0 rfl) ?_
  refine lv_iconst (v := 2) hx hb dL_law_2081 (by decide) ?_
  refine lv_iadd hx hb dL_law_2082 ?_
  refine lv_topi (fun x9 ex9 => ?_)
  obtain rfl : x9 = 2 := ex9.trans (by decide +kernel)
  refine va_sld hx hb hX hbl hbA hS (by unfold vp_in; decide +kernel) dL_law_2083 ?_
  refine lv_topi (fun x9 ex9 => ?_)
  obtain rfl : v2 = x9 := (ex9.trans hs2).symm
  refine lv_aload_n hx hb dL_law_2084 rfl (lv_at hl 4 rfl) ?_
  refine lv_iload hx hb dL_law_2085 (lv_at hl 0 rfl) ?_
  refine lv_iconst (v := 3) hx hb dL_law_2087 (by decide) ?_
  refine lv_iadd hx hb dL_law_2088 ?_
  refine lv_topi (fun x9 ex9 => ?_)
  obtain rfl : x9 = 3 := ex9.trans (by decide +kernel)
  refine va_sld hx hb hX hbl hbA hS (by unfold vp_in; decide +kernel) dL_law_2089 ?_
  refine lv_topi (fun x9 ex9 => ?_)
  obtain rfl : v3 = x9 := (ex9.trans hs3).symm
  refine lv_aload_n hx hb dL_law_2090 rfl (lv_at hl 1 rfl) ?_
  have hPc := hP.sub (ws' := [(x0, .inr (9, [.ref w1, .ref w6, .int 0, .ref w8, .ref w15, .int 0, .int 0, .ref w22, .ref w26, .ref w31, .ref w35, .ref w40, .ref w48, .ref w50, .ref w52])), (w52, .inl (d53, 3, .inl (fun _ => 0))), (o0, .inl (co, 1, .inr (.inl (fun _ => 0))))]) [0, 1, 4] rfl
  have hDc := hD.sub (ws' := [(x0, .inr (9, [.ref w1, .ref w6, .int 0, .ref w8, .ref w15, .int 0, .int 0, .ref w22, .ref w26, .ref w31, .ref w35, .ref w40, .ref w48, .ref w50, .ref w52])), (w52, .inl (d53, 3, .inl (fun _ => 0))), (o0, .inl (co, 1, .inr (.inl (fun _ => 0))))]) [0, 1, 4] (by decide) rfl
  have hKc := hK.sub (tys' := [(d53, .int), (co, .long)]) [0, 2] rfl
  have hFc := va_free (wc := [(x0, .inr (9, [.ref w1, .ref w6, .int 0, .ref w8, .ref w15, .int 0, .int 0, .ref w22, .ref w26, .ref w31, .ref w35, .ref w40, .ref w48, .ref w50, .ref w52])), (w52, .inl (d53, 3, .inl (fun _ => 0))), (o0, .inl (co, 1, .inr (.inl (fun _ => 0))))]) hD hS hA [0, 1, 4] rfl
  refine va_calli (vx_runSW (hh := [(0, 12, 15, 20), (0, 12, 19, 13)]) (As := [.ref x0, .int v1, .int v2, .int v3, .ref o0]) (rest := []) ⟨hx, hb, hml, hown, hts⟩ (w_step l hfl dC dI H.size (x0) (w1) (w6) (w8) (w15) (w22) (w26) (w31) (w35) (w40) (w48) (w50) (w52) (d53) (o0) (co) (v1) (v2) (v3)) (vx_cwSW 5 hts (gW_G k1135 k1136 k0 k1137) rfl rfl rfl (by decide +kernel) ⟨Nat.le_of_ble_eq_true rfl, Nat.le_of_ble_eq_true rfl⟩) ⟨fun a U g mk q => by obtain ⟨q0, q1, qP, qK, qD, qE⟩ := q; exact ⟨q0, q1, qP, va_K.moved (u := U) (U := U.calling g mk a) (Vm.Alike.refl U.vm) qK, qD, xX_call qE⟩, fun U hU hW => ⟨rfl, by rw [hU], by rw [hU]; exact hPc, va_K.moved hW.alike hKc, hDc.weaken (fun _ _ _ _ => trivial), xX_at hEx hS (fun q h => hFc q h) hU hW⟩⟩ rfl rfl hl.1 rfl (lv_room (Nat.le_of_ble_eq_true rfl)) dL_law_2091 ⟨Nat.le_of_ble_eq_true rfl, Nat.le_of_ble_eq_true rfl⟩) hS (fun q _ h => hFc q h) hFc (fun r101 u t H1 locs ht hvm hw hB hz1 hk1 hS => ?_)
  obtain ⟨hP1, hK1, hD1⟩ := hB
  rw [ht] at hP1
  have hK1 := va_K.moved hvm.symm hK1
  try dsimp only at hw
  obtain ⟨hP, hD⟩ := va_join (wr := [(y0, .inr (10, [.int 0, .ref m1, .int 0, .int 0, .int 0, .int (-1), .int 0, .int 0, .ref m8, .int 0, .int 0, .ref m11, .ref m12, .ref m13, .ref m14, .ref m15, .ref m16, .ref m17, .ref m18, .ref m19, .ref m20, .ref m21, .int 0, .int 0, .int 0, .ref m25, .ref m26, .int 0, .int 0, .ref m29, .ref m30, .ref m31, .ref m32, .int 0, .ref m34, .ref m35, .ref m36, .ref m37, .int 0, .int 0, .ref m40, .ref m41, .ref m42, .ref m43, .ref m44, .ref m45, .ref m46, .ref m47, .ref m48, .ref m49, .ref m50, .ref m51, .ref m52])), (m1, .inl (crf, 3, .inl (fun _ => 0)))]) (w1 := []) hP hD [0, 1, 4] [2, 3] rfl rfl (by decide) (by decide) hk1 hFc hP1 hD1
  have hK := hK.app hK1
  generalize H1 = H at hP hS ⊢
  have hP : va_P (dC, dI) vwCl [(y0, .inr (10, [.int 0, .ref m1, .int 0, .int 0, .int 0, .int (-1), .int 0, .int 0, .ref m8, .int 0, .int 0, .ref m11, .ref m12, .ref m13, .ref m14, .ref m15, .ref m16, .ref m17, .ref m18, .ref m19, .ref m20, .ref m21, .int 0, .int 0, .int 0, .ref m25, .ref m26, .int 0, .int 0, .ref m29, .ref m30, .ref m31, .ref m32, .int 0, .ref m34, .ref m35, .ref m36, .ref m37, .int 0, .int 0, .ref m40, .ref m41, .ref m42, .ref m43, .ref m44, .ref m45, .ref m46, .ref m47, .ref m48, .ref m49, .ref m50, .ref m51, .ref m52])), (m1, .inl (crf, 3, .inl (fun _ => 0)))] H := hP
  have hD : va_D A [(y0, .inr (10, [.int 0, .ref m1, .int 0, .int 0, .int 0, .int (-1), .int 0, .int 0, .ref m8, .int 0, .int 0, .ref m11, .ref m12, .ref m13, .ref m14, .ref m15, .ref m16, .ref m17, .ref m18, .ref m19, .ref m20, .ref m21, .int 0, .int 0, .int 0, .ref m25, .ref m26, .int 0, .int 0, .ref m29, .ref m30, .ref m31, .ref m32, .int 0, .ref m34, .ref m35, .ref m36, .ref m37, .int 0, .int 0, .ref m40, .ref m41, .ref m42, .ref m43, .ref m44, .ref m45, .ref m46, .ref m47, .ref m48, .ref m49, .ref m50, .ref m51, .ref m52])), (m1, .inl (crf, 3, .inl (fun _ => 0)))] := hD
  have hK : va_K (dC, dI) vwCl [(d53, .int), (crf, .int), (co, .long)] s := hK
  refine W.widen (k := 6561) (n := 850836) (by omega) (by omega) ?_
  obtain rfl : r101 = 1 := hw
  refine lv_istore (lv' := [(5, .int 1), (4, .int 0), (3, .ref o0), (2, .ref y0), (1, .ref x0), (0, .ref b)]) hx hb dL_law_2094 hl (by decide) rfl (fun ls hl => ?_)
  refine lv_aload_n hx hb dL_law_2096 rfl (lv_at hl 3 rfl) ?_
  refine lv_aload_n hx hb dL_law_2097 rfl (lv_at hl 5 rfl) ?_
  refine lv_iload hx hb dL_law_2098 (lv_at hl 1 rfl) ?_
  refine lv_iconst (v := 1) hx hb dL_law_2100 (by decide) ?_
  refine lv_iadd hx hb dL_law_2101 ?_
  refine lv_topi (fun x9 ex9 => ?_)
  obtain rfl : x9 = 1 := ex9.trans (by decide +kernel)
  refine va_sld hx hb hX hbl hbA hS (by unfold vp_in; decide +kernel) dL_law_2102 ?_
  refine lv_topi (fun x9 ex9 => ?_)
  obtain rfl : v1 = x9 := (ex9.trans hs1).symm
  refine lv_aload_n hx hb dL_law_2103 rfl (lv_at hl 5 rfl) ?_
  refine lv_iload hx hb dL_law_2104 (lv_at hl 1 rfl) ?_
  refine lv_iconst (v := 2) hx hb dL_law_2106 (by decide) ?_
  refine lv_iadd hx hb dL_law_2107 ?_
  refine lv_topi (fun x9 ex9 => ?_)
  obtain rfl : x9 = 2 := ex9.trans (by decide +kernel)
  refine va_sld hx hb hX hbl hbA hS (by unfold vp_in; decide +kernel) dL_law_2108 ?_
  refine lv_topi (fun x9 ex9 => ?_)
  obtain rfl : v2 = x9 := (ex9.trans hs2).symm
  refine lv_aload_n hx hb dL_law_2109 rfl (lv_at hl 5 rfl) ?_
  refine lv_iload hx hb dL_law_2110 (lv_at hl 1 rfl) ?_
  refine lv_iconst (v := 3) hx hb dL_law_2112 (by decide) ?_
  refine lv_iadd hx hb dL_law_2113 ?_
  refine lv_topi (fun x9 ex9 => ?_)
  obtain rfl : x9 = 3 := ex9.trans (by decide +kernel)
  refine va_sld hx hb hX hbl hbA hS (by unfold vp_in; decide +kernel) dL_law_2114 ?_
  refine lv_topi (fun x9 ex9 => ?_)
  obtain rfl : v3 = x9 := (ex9.trans hs3).symm
  have hPc := hP.sub (ws' := [(y0, .inr (10, [.int 0, .ref m1, .int 0, .int 0, .int 0, .int (-1), .int 0, .int 0, .ref m8, .int 0, .int 0, .ref m11, .ref m12, .ref m13, .ref m14, .ref m15, .ref m16, .ref m17, .ref m18, .ref m19, .ref m20, .ref m21, .int 0, .int 0, .int 0, .ref m25, .ref m26, .int 0, .int 0, .ref m29, .ref m30, .ref m31, .ref m32, .int 0, .ref m34, .ref m35, .ref m36, .ref m37, .int 0, .int 0, .ref m40, .ref m41, .ref m42, .ref m43, .ref m44, .ref m45, .ref m46, .ref m47, .ref m48, .ref m49, .ref m50, .ref m51, .ref m52])), (m1, .inl (crf, 3, .inl (fun _ => 0)))]) [0, 1] rfl
  have hDc := hD.sub (ws' := [(y0, .inr (10, [.int 0, .ref m1, .int 0, .int 0, .int 0, .int (-1), .int 0, .int 0, .ref m8, .int 0, .int 0, .ref m11, .ref m12, .ref m13, .ref m14, .ref m15, .ref m16, .ref m17, .ref m18, .ref m19, .ref m20, .ref m21, .int 0, .int 0, .int 0, .ref m25, .ref m26, .int 0, .int 0, .ref m29, .ref m30, .ref m31, .ref m32, .int 0, .ref m34, .ref m35, .ref m36, .ref m37, .int 0, .int 0, .ref m40, .ref m41, .ref m42, .ref m43, .ref m44, .ref m45, .ref m46, .ref m47, .ref m48, .ref m49, .ref m50, .ref m51, .ref m52])), (m1, .inl (crf, 3, .inl (fun _ => 0)))]) [0, 1] (by decide) rfl
  have hKc := hK.sub (tys' := [(crf, .int)]) [1] rfl
  have hFc := va_free (wc := [(y0, .inr (10, [.int 0, .ref m1, .int 0, .int 0, .int 0, .int (-1), .int 0, .int 0, .ref m8, .int 0, .int 0, .ref m11, .ref m12, .ref m13, .ref m14, .ref m15, .ref m16, .ref m17, .ref m18, .ref m19, .ref m20, .ref m21, .int 0, .int 0, .int 0, .ref m25, .ref m26, .int 0, .int 0, .ref m29, .ref m30, .ref m31, .ref m32, .int 0, .ref m34, .ref m35, .ref m36, .ref m37, .int 0, .int 0, .ref m40, .ref m41, .ref m42, .ref m43, .ref m44, .ref m45, .ref m46, .ref m47, .ref m48, .ref m49, .ref m50, .ref m51, .ref m52])), (m1, .inl (crf, 3, .inl (fun _ => 0)))]) hD hS hA [0, 1] rfl
  refine va_calli (va_runV (As := [.int v1, .int v2, .int v3]) (rest := []) ⟨hx, hb, hml, hown, hts⟩ (m_step l dC dI H.size (y0) (m1) (m8) (m11) (m12) (m13) (m14) (m15) (m16) (m17) (m18) (m19) (m20) (m21) (m25) (m26) (m29) (m30) (m31) (m32) (m34) (m35) (m36) (m37) (m40) (m41) (m42) (m43) (m44) (m45) (m46) (m47) (m48) (m49) (m50) (m51) (m52) (crf) (v1) (v2) (v3)) (cwV 3 hts (gV_G k1759 k1760 k1761 k13 k1762) rfl rfl rfl (by decide +kernel) ⟨Nat.le_of_ble_eq_true rfl, Nat.le_of_ble_eq_true rfl⟩) ⟨fun a U g mk q => by obtain ⟨q0, q1, qP, qK, qD⟩ := q; exact ⟨q0, q1, qP, va_K.moved (u := U) (U := U.calling g mk a) (Vm.Alike.refl U.vm) qK, qD⟩, va_recv hKc hPc (ci := 10) (q0 := 0) rfl rfl, fun U hU hW => ⟨rfl, by rw [hU], by rw [hU]; exact hPc, va_K.moved hW.alike hKc, hDc.weaken (fun _ _ _ _ => trivial)⟩⟩ rfl rfl hl.1 rfl (lv_room (Nat.le_of_ble_eq_true rfl)) dL_law_2115 ⟨Nat.le_of_ble_eq_true rfl, Nat.le_of_ble_eq_true rfl⟩) hS (fun q _ h => hFc q h) hFc (fun r102 u t H1 locs ht hvm hw hB hz1 hk1 hS => ?_)
  obtain ⟨hP1, hK1, hD1⟩ := hB
  rw [ht] at hP1
  have hK1 := va_K.moved hvm.symm hK1
  try dsimp only at hw
  obtain ⟨hP, hD⟩ := va_join (wr := []) (w1 := [(y0, .inr (10, [.int 1, .ref m1, .int 0, .int 0, .int 0, .int (-1), .int 0, .int 0, .ref m8, .int 0, .int 0, .ref m11, .ref m12, .ref m13, .ref m14, .ref m15, .ref m16, .ref m17, .ref m18, .ref m19, .ref m20, .ref m21, .int 0, .int 0, .int 0, .ref m25, .ref m26, .int 0, .int 0, .ref m29, .ref m30, .ref m31, .ref m32, .int 0, .ref m34, .ref m35, .ref m36, .ref m37, .int 0, .int 0, .ref m40, .ref m41, .ref m42, .ref m43, .ref m44, .ref m45, .ref m46, .ref m47, .ref m48, .ref m49, .ref m50, .ref m51, .ref m52]))]) hP hD [0, 1] [] rfl rfl (by decide) (by decide) hk1 hFc hP1 hD1
  have hK := hK.app hK1
  generalize H1 = H at hP hS ⊢
  have hP : va_P (dC, dI) vwCl [(y0, .inr (10, [.int 1, .ref m1, .int 0, .int 0, .int 0, .int (-1), .int 0, .int 0, .ref m8, .int 0, .int 0, .ref m11, .ref m12, .ref m13, .ref m14, .ref m15, .ref m16, .ref m17, .ref m18, .ref m19, .ref m20, .ref m21, .int 0, .int 0, .int 0, .ref m25, .ref m26, .int 0, .int 0, .ref m29, .ref m30, .ref m31, .ref m32, .int 0, .ref m34, .ref m35, .ref m36, .ref m37, .int 0, .int 0, .ref m40, .ref m41, .ref m42, .ref m43, .ref m44, .ref m45, .ref m46, .ref m47, .ref m48, .ref m49, .ref m50, .ref m51, .ref m52]))] H := hP
  have hD : va_D A [(y0, .inr (10, [.int 1, .ref m1, .int 0, .int 0, .int 0, .int (-1), .int 0, .int 0, .ref m8, .int 0, .int 0, .ref m11, .ref m12, .ref m13, .ref m14, .ref m15, .ref m16, .ref m17, .ref m18, .ref m19, .ref m20, .ref m21, .int 0, .int 0, .int 0, .ref m25, .ref m26, .int 0, .int 0, .ref m29, .ref m30, .ref m31, .ref m32, .int 0, .ref m34, .ref m35, .ref m36, .ref m37, .int 0, .int 0, .ref m40, .ref m41, .ref m42, .ref m43, .ref m44, .ref m45, .ref m46, .ref m47, .ref m48, .ref m49, .ref m50, .ref m51, .ref m52]))] := hD
  have hK : va_K (dC, dI) vwCl [(d53, .int), (crf, .int), (co, .long)] s := hK
  refine W.widen (k := 6561) (n := 850836) (by omega) (by omega) ?_
  obtain rfl : r102 = 0 := hw
  refine lv_istore (lv' := [(6, .int 0), (5, .int 1), (4, .int 0), (3, .ref o0), (2, .ref y0), (1, .ref x0), (0, .ref b)]) hx hb dL_law_2118 hl (by decide) rfl (fun ls hl => ?_)
  refine lv_aload_n hx hb dL_law_2120 rfl (lv_at hl 4 rfl) ?_
  have hPc := hP.sub (ws' := [(y0, .inr (10, [.int 1, .ref m1, .int 0, .int 0, .int 0, .int (-1), .int 0, .int 0, .ref m8, .int 0, .int 0, .ref m11, .ref m12, .ref m13, .ref m14, .ref m15, .ref m16, .ref m17, .ref m18, .ref m19, .ref m20, .ref m21, .int 0, .int 0, .int 0, .ref m25, .ref m26, .int 0, .int 0, .ref m29, .ref m30, .ref m31, .ref m32, .int 0, .ref m34, .ref m35, .ref m36, .ref m37, .int 0, .int 0, .ref m40, .ref m41, .ref m42, .ref m43, .ref m44, .ref m45, .ref m46, .ref m47, .ref m48, .ref m49, .ref m50, .ref m51, .ref m52]))]) [0] rfl
  have hDc := hD.sub (ws' := [(y0, .inr (10, [.int 1, .ref m1, .int 0, .int 0, .int 0, .int (-1), .int 0, .int 0, .ref m8, .int 0, .int 0, .ref m11, .ref m12, .ref m13, .ref m14, .ref m15, .ref m16, .ref m17, .ref m18, .ref m19, .ref m20, .ref m21, .int 0, .int 0, .int 0, .ref m25, .ref m26, .int 0, .int 0, .ref m29, .ref m30, .ref m31, .ref m32, .int 0, .ref m34, .ref m35, .ref m36, .ref m37, .int 0, .int 0, .ref m40, .ref m41, .ref m42, .ref m43, .ref m44, .ref m45, .ref m46, .ref m47, .ref m48, .ref m49, .ref m50, .ref m51, .ref m52]))]) [0] (by decide) rfl
  have hKc := hK.sub (tys' := []) [] rfl
  have hFc := va_free (wc := [(y0, .inr (10, [.int 1, .ref m1, .int 0, .int 0, .int 0, .int (-1), .int 0, .int 0, .ref m8, .int 0, .int 0, .ref m11, .ref m12, .ref m13, .ref m14, .ref m15, .ref m16, .ref m17, .ref m18, .ref m19, .ref m20, .ref m21, .int 0, .int 0, .int 0, .ref m25, .ref m26, .int 0, .int 0, .ref m29, .ref m30, .ref m31, .ref m32, .int 0, .ref m34, .ref m35, .ref m36, .ref m37, .int 0, .int 0, .ref m40, .ref m41, .ref m42, .ref m43, .ref m44, .ref m45, .ref m46, .ref m47, .ref m48, .ref m49, .ref m50, .ref m51, .ref m52]))]) hD hS hA [0] rfl
  refine va_calli (va_runV (As := []) (rest := []) ⟨hx, hb, hml, hown, hts⟩ (m_thrown l dC dI H.size (y0) (1) (m1) (0) (0) (0) ((-1)) (0) (0) (m8) (0) (0) (m11) (m12) (m13) (m14) (m15) (m16) (m17) (m18) (m19) (m20) (m21) (0) (0) (0) (m25) (m26) (0) (0) (m29) (m30) (m31) (m32) (0) (m34) (m35) (m36) (m37) (0) (0) (m40) (m41) (m42) (m43) (m44) (m45) (m46) (m47) (m48) (m49) (m50) (m51) (m52)) (cwV 0 hts (gV_G k1327 k1328 k1329 k13 k1330) rfl rfl rfl (by decide +kernel) ⟨Nat.le_of_ble_eq_true rfl, Nat.le_of_ble_eq_true rfl⟩) ⟨fun a U g mk q => by obtain ⟨q0, q1, qP, qK, qD⟩ := q; exact ⟨q0, q1, qP, va_K.moved (u := U) (U := U.calling g mk a) (Vm.Alike.refl U.vm) qK, qD⟩, va_recv hKc hPc (ci := 10) (q0 := 0) rfl rfl, fun U hU hW => ⟨rfl, by rw [hU], by rw [hU]; exact hPc, va_K.moved hW.alike hKc, hDc.weaken (fun _ _ _ _ => trivial)⟩⟩ rfl rfl hl.1 rfl (lv_room (Nat.le_of_ble_eq_true rfl)) dL_law_2121 ⟨Nat.le_of_ble_eq_true rfl, Nat.le_of_ble_eq_true rfl⟩) hS (fun q _ h => hFc q h) hFc (fun r103 u t H1 locs ht hvm hw hB hz1 hk1 hS => ?_)
  obtain ⟨hP1, hK1, hD1⟩ := hB
  rw [ht] at hP1
  have hK1 := va_K.moved hvm.symm hK1
  try dsimp only at hw
  obtain ⟨hP, hD⟩ := va_join (wr := []) (w1 := []) hP hD [0] [] rfl rfl (by decide) (by decide) hk1 hFc hP1 hD1
  have hK := hK.app hK1
  generalize H1 = H at hP hS ⊢
  have hP : va_P (dC, dI) vwCl [] H := hP
  have hD : va_D A [] := hD
  have hK : va_K (dC, dI) vwCl [(d53, .int), (crf, .int), (co, .long)] s := hK
  refine W.widen (k := 6561) (n := 850836) (by omega) (by omega) ?_
  obtain rfl : r103 = 1 := hw
  refine lv_iload hx hb dL_law_2124 (lv_at hl 1 rfl) ?_
  refine lv_icmp_eq (tgt := 2131) hx hb dL_law_2126 (by decide) (fun _ => ?_) (fun c9 => absurd (by decide +kernel) c9)
  refine lv_iload hx hb dL_law_2131 (lv_at hl 1 rfl) ?_
  refine lv_if_ne (tgt := 2148) hx hb dL_law_2133 (by decide) (fun _ => ?_) (fun c9 => absurd c9 (by decide +kernel))
  refine lv_goto (tgt := 2301) hx hb dL_law_2148 (by decide) ?_
  refine W.widen (k := 6567) (n := 850872) (by omega) (by omega) ?_
  exact hend H locs ls hS (lv_sub hl [2, 6] rfl)
set_option maxHeartbeats 4000000 in
set_option maxRecDepth 100000 in
theorem lc_users {p : Program} {l : Launch} {e : Env} {s : State} {m : MethodId} {below : List Frame} {meth : Method} {c : Code} {dC : Nat → ClassId} {dI : Nat → Nat → Nat} {A : Nat → Prop} {b : Nat} {xs : Nat → Int32} (C0 : lx_C p l s m c A b xs) {x0 w1 w6 w8 w15 w22 w26 w31 w35 w40 w48 w50 w52 w9 w10 w11 w12 w13 y0 m1 m8 m11 m12 m13 m14 m15 m16 m17 m18 m19 m20 m21 m25 m26 m29 m30 m31 m32 m34 m35 m36 m37 m40 m41 m42 m43 m44 m45 m46 m47 m48 m49 m50 m51 m52 o0 : Nat} {d53 crf cnd co : ClassId}  {v1 : Int32} (hs1 : xs (1 : Int32).toNatClampNeg = v1)
    (hend : ∀ (H : Heap) (locs : List Loc) (ls : Array Slot), va_S A s.heap H locs → lv_has ls 7 [(4, .int 0), (0, .ref b)] → W p l e room_1 s m #[Value.ref b] below meth c H locs 6567 850872 (lw_Z below #[Value.ref b] s) (F0 m 2301 ls []))
    {H : Heap} {locs : List Loc} {ls : Array Slot} (hP : va_P (dC, dI) vwCl [(x0, .inr (9, [.ref w1, .ref w6, .int 0, .ref w8, .ref w15, .int 0, .int 0, .ref w22, .ref w26, .ref w31, .ref w35, .ref w40, .ref w48, .ref w50, .ref w52])), (w52, .inl (d53, 3, .inl (fun _ => 0))), (w8, .inr (4, [.ref w9, .ref w10, .ref w11, .ref w12, .ref w13, .int 0, .int 0, .int 0])), (y0, .inr (10, [.int 0, .ref m1, .int 0, .int 0, .int 0, .int (-1), .int 0, .int 0, .ref m8, .int 0, .int 0, .ref m11, .ref m12, .ref m13, .ref m14, .ref m15, .ref m16, .ref m17, .ref m18, .ref m19, .ref m20, .ref m21, .int 0, .int 0, .int 0, .ref m25, .ref m26, .int 0, .int 0, .ref m29, .ref m30, .ref m31, .ref m32, .int 0, .ref m34, .ref m35, .ref m36, .ref m37, .int 0, .int 0, .ref m40, .ref m41, .ref m42, .ref m43, .ref m44, .ref m45, .ref m46, .ref m47, .ref m48, .ref m49, .ref m50, .ref m51, .ref m52])), (m1, .inl (crf, 3, .inl (fun _ => 0))), (m21, .inl (cnd, 70, .inl (fun _ => 0))), (o0, .inl (co, 1, .inr (.inl (fun _ => 0))))] H) (hD : va_D A [(x0, .inr (9, [.ref w1, .ref w6, .int 0, .ref w8, .ref w15, .int 0, .int 0, .ref w22, .ref w26, .ref w31, .ref w35, .ref w40, .ref w48, .ref w50, .ref w52])), (w52, .inl (d53, 3, .inl (fun _ => 0))), (w8, .inr (4, [.ref w9, .ref w10, .ref w11, .ref w12, .ref w13, .int 0, .int 0, .int 0])), (y0, .inr (10, [.int 0, .ref m1, .int 0, .int 0, .int 0, .int (-1), .int 0, .int 0, .ref m8, .int 0, .int 0, .ref m11, .ref m12, .ref m13, .ref m14, .ref m15, .ref m16, .ref m17, .ref m18, .ref m19, .ref m20, .ref m21, .int 0, .int 0, .int 0, .ref m25, .ref m26, .int 0, .int 0, .ref m29, .ref m30, .ref m31, .ref m32, .int 0, .ref m34, .ref m35, .ref m36, .ref m37, .int 0, .int 0, .ref m40, .ref m41, .ref m42, .ref m43, .ref m44, .ref m45, .ref m46, .ref m47, .ref m48, .ref m49, .ref m50, .ref m51, .ref m52])), (m1, .inl (crf, 3, .inl (fun _ => 0))), (m21, .inl (cnd, 70, .inl (fun _ => 0))), (o0, .inl (co, 1, .inr (.inl (fun _ => 0))))]) (hK : va_K (dC, dI) vwCl [(d53, .int), (crf, .int), (cnd, .int), (co, .long)] s) (hS : va_S A s.heap H locs) (hl : lv_has ls 7 [(4, .int 0), (3, .ref o0), (2, .ref y0), (1, .ref x0), (0, .ref b)]) : W p l e room_1 s m #[Value.ref b] below meth c H locs 6559 850824 (lw_Z below #[Value.ref b] s) (F0 m 2151 ls []) := by
  obtain ⟨hfl, hx, hb, hml, hown, hts, hX, hbl, hbA, hA, hEx, hNc⟩ := C0
  refine lv_aload_n hx hb dL_law_2151 rfl (lv_at hl 3 rfl) ?_
  refine lv_aload_n hx hb dL_law_2152 rfl (lv_at hl 4 rfl) ?_
  refine lv_iload hx hb dL_law_2153 (lv_at hl 0 rfl) ?_
  refine lv_iconst (v := 1) hx hb dL_law_2155 (by decide) ?_
  refine lv_iadd hx hb dL_law_2156 ?_
  refine lv_topi (fun x9 ex9 => ?_)
  obtain rfl : x9 = 1 := ex9.trans (by decide +kernel)
  refine va_sld hx hb hX hbl hbA hS (by unfold vp_in; decide +kernel) dL_law_2157 ?_
  refine lv_topi (fun x9 ex9 => ?_)
  obtain rfl : v1 = x9 := (ex9.trans hs1).symm
  refine lv_aload_n hx hb dL_law_2158 rfl (lv_at hl 1 rfl) ?_
  have hPc := hP.sub (ws' := [(x0, .inr (9, [.ref w1, .ref w6, .int 0, .ref w8, .ref w15, .int 0, .int 0, .ref w22, .ref w26, .ref w31, .ref w35, .ref w40, .ref w48, .ref w50, .ref w52])), (w52, .inl (d53, 3, .inl (fun _ => 0))), (w8, .inr (4, [.ref w9, .ref w10, .ref w11, .ref w12, .ref w13, .int 0, .int 0, .int 0])), (o0, .inl (co, 1, .inr (.inl (fun _ => 0))))]) [0, 1, 2, 6] rfl
  have hDc := hD.sub (ws' := [(x0, .inr (9, [.ref w1, .ref w6, .int 0, .ref w8, .ref w15, .int 0, .int 0, .ref w22, .ref w26, .ref w31, .ref w35, .ref w40, .ref w48, .ref w50, .ref w52])), (w52, .inl (d53, 3, .inl (fun _ => 0))), (w8, .inr (4, [.ref w9, .ref w10, .ref w11, .ref w12, .ref w13, .int 0, .int 0, .int 0])), (o0, .inl (co, 1, .inr (.inl (fun _ => 0))))]) [0, 1, 2, 6] (by decide) rfl
  have hKc := hK.sub (tys' := [(d53, .int), (co, .long)]) [0, 3] rfl
  have hFc := va_free (wc := [(x0, .inr (9, [.ref w1, .ref w6, .int 0, .ref w8, .ref w15, .int 0, .int 0, .ref w22, .ref w26, .ref w31, .ref w35, .ref w40, .ref w48, .ref w50, .ref w52])), (w52, .inl (d53, 3, .inl (fun _ => 0))), (w8, .inr (4, [.ref w9, .ref w10, .ref w11, .ref w12, .ref w13, .int 0, .int 0, .int 0])), (o0, .inl (co, 1, .inr (.inl (fun _ => 0))))]) hD hS hA [0, 1, 2, 6] rfl
  refine va_calli (vx_runSW (hh := [(0, 9, 12, 20)]) (As := [.ref x0, .int v1, .ref o0]) (rest := []) ⟨hx, hb, hml, hown, hts⟩ (w_users l hfl dC dI H.size (x0) (w1) (w6) (w8) (w15) (w22) (w26) (w31) (w35) (w40) (w48) (w50) (w52) (w9) (w10) (w11) (w12) (w13) (d53) (o0) (co) (v1)) (vx_cwSW 3 hts (gW_G k1142 k1143 k0 k1144) rfl rfl rfl (by decide +kernel) ⟨Nat.le_of_ble_eq_true rfl, Nat.le_of_ble_eq_true rfl⟩) ⟨fun a U g mk q => by obtain ⟨q0, q1, qP, qK, qD, qE⟩ := q; exact ⟨q0, q1, qP, va_K.moved (u := U) (U := U.calling g mk a) (Vm.Alike.refl U.vm) qK, qD, xX_call qE⟩, fun U hU hW => ⟨rfl, by rw [hU], by rw [hU]; exact hPc, va_K.moved hW.alike hKc, hDc.weaken (fun _ _ _ _ => trivial), xX_at hEx hS (fun q h => hFc q h) hU hW⟩⟩ rfl rfl hl.1 rfl (lv_room (Nat.le_of_ble_eq_true rfl)) dL_law_2159 ⟨Nat.le_of_ble_eq_true rfl, Nat.le_of_ble_eq_true rfl⟩) hS (fun q _ h => hFc q h) hFc (fun r101 u t H1 locs ht hvm hw hB hz1 hk1 hS => ?_)
  obtain ⟨hP1, hK1, hD1⟩ := hB
  rw [ht] at hP1
  have hK1 := va_K.moved hvm.symm hK1
  try dsimp only at hw
  obtain ⟨hP, hD⟩ := va_join (wr := [(y0, .inr (10, [.int 0, .ref m1, .int 0, .int 0, .int 0, .int (-1), .int 0, .int 0, .ref m8, .int 0, .int 0, .ref m11, .ref m12, .ref m13, .ref m14, .ref m15, .ref m16, .ref m17, .ref m18, .ref m19, .ref m20, .ref m21, .int 0, .int 0, .int 0, .ref m25, .ref m26, .int 0, .int 0, .ref m29, .ref m30, .ref m31, .ref m32, .int 0, .ref m34, .ref m35, .ref m36, .ref m37, .int 0, .int 0, .ref m40, .ref m41, .ref m42, .ref m43, .ref m44, .ref m45, .ref m46, .ref m47, .ref m48, .ref m49, .ref m50, .ref m51, .ref m52])), (m1, .inl (crf, 3, .inl (fun _ => 0))), (m21, .inl (cnd, 70, .inl (fun _ => 0)))]) (w1 := []) hP hD [0, 1, 2, 6] [3, 4, 5] rfl rfl (by decide) (by decide) hk1 hFc hP1 hD1
  have hK := hK.app hK1
  generalize H1 = H at hP hS ⊢
  have hP : va_P (dC, dI) vwCl [(y0, .inr (10, [.int 0, .ref m1, .int 0, .int 0, .int 0, .int (-1), .int 0, .int 0, .ref m8, .int 0, .int 0, .ref m11, .ref m12, .ref m13, .ref m14, .ref m15, .ref m16, .ref m17, .ref m18, .ref m19, .ref m20, .ref m21, .int 0, .int 0, .int 0, .ref m25, .ref m26, .int 0, .int 0, .ref m29, .ref m30, .ref m31, .ref m32, .int 0, .ref m34, .ref m35, .ref m36, .ref m37, .int 0, .int 0, .ref m40, .ref m41, .ref m42, .ref m43, .ref m44, .ref m45, .ref m46, .ref m47, .ref m48, .ref m49, .ref m50, .ref m51, .ref m52])), (m1, .inl (crf, 3, .inl (fun _ => 0))), (m21, .inl (cnd, 70, .inl (fun _ => 0)))] H := hP
  have hD : va_D A [(y0, .inr (10, [.int 0, .ref m1, .int 0, .int 0, .int 0, .int (-1), .int 0, .int 0, .ref m8, .int 0, .int 0, .ref m11, .ref m12, .ref m13, .ref m14, .ref m15, .ref m16, .ref m17, .ref m18, .ref m19, .ref m20, .ref m21, .int 0, .int 0, .int 0, .ref m25, .ref m26, .int 0, .int 0, .ref m29, .ref m30, .ref m31, .ref m32, .int 0, .ref m34, .ref m35, .ref m36, .ref m37, .int 0, .int 0, .ref m40, .ref m41, .ref m42, .ref m43, .ref m44, .ref m45, .ref m46, .ref m47, .ref m48, .ref m49, .ref m50, .ref m51, .ref m52])), (m1, .inl (crf, 3, .inl (fun _ => 0))), (m21, .inl (cnd, 70, .inl (fun _ => 0)))] := hD
  have hK : va_K (dC, dI) vwCl [(d53, .int), (crf, .int), (cnd, .int), (co, .long)] s := hK
  refine W.widen (k := 6561) (n := 850836) (by omega) (by omega) ?_
  obtain rfl : r101 = 1 := hw
  refine lv_istore (lv' := [(5, .int 1), (4, .int 0), (3, .ref o0), (2, .ref y0), (1, .ref x0), (0, .ref b)]) hx hb dL_law_2162 hl (by decide) rfl (fun ls hl => ?_)
  refine lv_aload_n hx hb dL_law_2164 rfl (lv_at hl 3 rfl) ?_
  refine lv_aload_n hx hb dL_law_2165 rfl (lv_at hl 5 rfl) ?_
  refine lv_iload hx hb dL_law_2166 (lv_at hl 1 rfl) ?_
  refine lv_iconst (v := 1) hx hb dL_law_2168 (by decide) ?_
  refine lv_iadd hx hb dL_law_2169 ?_
  refine lv_topi (fun x9 ex9 => ?_)
  obtain rfl : x9 = 1 := ex9.trans (by decide +kernel)
  refine va_sld hx hb hX hbl hbA hS (by unfold vp_in; decide +kernel) dL_law_2170 ?_
  refine lv_topi (fun x9 ex9 => ?_)
  obtain rfl : v1 = x9 := (ex9.trans hs1).symm
  have hPc := hP.sub (ws' := [(y0, .inr (10, [.int 0, .ref m1, .int 0, .int 0, .int 0, .int (-1), .int 0, .int 0, .ref m8, .int 0, .int 0, .ref m11, .ref m12, .ref m13, .ref m14, .ref m15, .ref m16, .ref m17, .ref m18, .ref m19, .ref m20, .ref m21, .int 0, .int 0, .int 0, .ref m25, .ref m26, .int 0, .int 0, .ref m29, .ref m30, .ref m31, .ref m32, .int 0, .ref m34, .ref m35, .ref m36, .ref m37, .int 0, .int 0, .ref m40, .ref m41, .ref m42, .ref m43, .ref m44, .ref m45, .ref m46, .ref m47, .ref m48, .ref m49, .ref m50, .ref m51, .ref m52])), (m1, .inl (crf, 3, .inl (fun _ => 0))), (m21, .inl (cnd, 70, .inl (fun _ => 0)))]) [0, 1, 2] rfl
  have hDc := hD.sub (ws' := [(y0, .inr (10, [.int 0, .ref m1, .int 0, .int 0, .int 0, .int (-1), .int 0, .int 0, .ref m8, .int 0, .int 0, .ref m11, .ref m12, .ref m13, .ref m14, .ref m15, .ref m16, .ref m17, .ref m18, .ref m19, .ref m20, .ref m21, .int 0, .int 0, .int 0, .ref m25, .ref m26, .int 0, .int 0, .ref m29, .ref m30, .ref m31, .ref m32, .int 0, .ref m34, .ref m35, .ref m36, .ref m37, .int 0, .int 0, .ref m40, .ref m41, .ref m42, .ref m43, .ref m44, .ref m45, .ref m46, .ref m47, .ref m48, .ref m49, .ref m50, .ref m51, .ref m52])), (m1, .inl (crf, 3, .inl (fun _ => 0))), (m21, .inl (cnd, 70, .inl (fun _ => 0)))]) [0, 1, 2] (by decide) rfl
  have hKc := hK.sub (tys' := [(crf, .int), (cnd, .int)]) [1, 2] rfl
  have hFc := va_free (wc := [(y0, .inr (10, [.int 0, .ref m1, .int 0, .int 0, .int 0, .int (-1), .int 0, .int 0, .ref m8, .int 0, .int 0, .ref m11, .ref m12, .ref m13, .ref m14, .ref m15, .ref m16, .ref m17, .ref m18, .ref m19, .ref m20, .ref m21, .int 0, .int 0, .int 0, .ref m25, .ref m26, .int 0, .int 0, .ref m29, .ref m30, .ref m31, .ref m32, .int 0, .ref m34, .ref m35, .ref m36, .ref m37, .int 0, .int 0, .ref m40, .ref m41, .ref m42, .ref m43, .ref m44, .ref m45, .ref m46, .ref m47, .ref m48, .ref m49, .ref m50, .ref m51, .ref m52])), (m1, .inl (crf, 3, .inl (fun _ => 0))), (m21, .inl (cnd, 70, .inl (fun _ => 0)))]) hD hS hA [0, 1, 2] rfl
  refine va_calli (va_runV (As := [.int v1]) (rest := []) ⟨hx, hb, hml, hown, hts⟩ (m_users l dC dI H.size (y0) (m1) (m8) (m11) (m12) (m13) (m14) (m15) (m16) (m17) (m18) (m19) (m20) (m21) (m25) (m26) (m29) (m30) (m31) (m32) (m34) (m35) (m36) (m37) (m40) (m41) (m42) (m43) (m44) (m45) (m46) (m47) (m48) (m49) (m50) (m51) (m52) (crf) (cnd) (v1)) (cwV 1 hts (gV_G k1687 k1688 k1689 k13 k1690) rfl rfl rfl (by decide +kernel) ⟨Nat.le_of_ble_eq_true rfl, Nat.le_of_ble_eq_true rfl⟩) ⟨fun a U g mk q => by obtain ⟨q0, q1, qP, qK, qD⟩ := q; exact ⟨q0, q1, qP, va_K.moved (u := U) (U := U.calling g mk a) (Vm.Alike.refl U.vm) qK, qD⟩, va_recv hKc hPc (ci := 10) (q0 := 0) rfl rfl, fun U hU hW => ⟨rfl, by rw [hU], by rw [hU]; exact hPc, va_K.moved hW.alike hKc, hDc.weaken (fun _ _ _ _ => trivial)⟩⟩ rfl rfl hl.1 rfl (lv_room (Nat.le_of_ble_eq_true rfl)) dL_law_2171 ⟨Nat.le_of_ble_eq_true rfl, Nat.le_of_ble_eq_true rfl⟩) hS (fun q _ h => hFc q h) hFc (fun r102 u t H1 locs ht hvm hw hB hz1 hk1 hS => ?_)
  obtain ⟨hP1, hK1, hD1⟩ := hB
  rw [ht] at hP1
  have hK1 := va_K.moved hvm.symm hK1
  try dsimp only at hw
  obtain ⟨hP, hD⟩ := va_join (wr := []) (w1 := [(y0, .inr (10, [.int 1, .ref m1, .int 0, .int 0, .int 0, .int (-1), .int 0, .int 0, .ref m8, .int 0, .int 0, .ref m11, .ref m12, .ref m13, .ref m14, .ref m15, .ref m16, .ref m17, .ref m18, .ref m19, .ref m20, .ref m21, .int 0, .int 0, .int 0, .ref m25, .ref m26, .int 0, .int 0, .ref m29, .ref m30, .ref m31, .ref m32, .int 0, .ref m34, .ref m35, .ref m36, .ref m37, .int 0, .int 0, .ref m40, .ref m41, .ref m42, .ref m43, .ref m44, .ref m45, .ref m46, .ref m47, .ref m48, .ref m49, .ref m50, .ref m51, .ref m52]))]) hP hD [0, 1, 2] [] rfl rfl (by decide) (by decide) hk1 hFc hP1 hD1
  have hK := hK.app hK1
  generalize H1 = H at hP hS ⊢
  have hP : va_P (dC, dI) vwCl [(y0, .inr (10, [.int 1, .ref m1, .int 0, .int 0, .int 0, .int (-1), .int 0, .int 0, .ref m8, .int 0, .int 0, .ref m11, .ref m12, .ref m13, .ref m14, .ref m15, .ref m16, .ref m17, .ref m18, .ref m19, .ref m20, .ref m21, .int 0, .int 0, .int 0, .ref m25, .ref m26, .int 0, .int 0, .ref m29, .ref m30, .ref m31, .ref m32, .int 0, .ref m34, .ref m35, .ref m36, .ref m37, .int 0, .int 0, .ref m40, .ref m41, .ref m42, .ref m43, .ref m44, .ref m45, .ref m46, .ref m47, .ref m48, .ref m49, .ref m50, .ref m51, .ref m52]))] H := hP
  have hD : va_D A [(y0, .inr (10, [.int 1, .ref m1, .int 0, .int 0, .int 0, .int (-1), .int 0, .int 0, .ref m8, .int 0, .int 0, .ref m11, .ref m12, .ref m13, .ref m14, .ref m15, .ref m16, .ref m17, .ref m18, .ref m19, .ref m20, .ref m21, .int 0, .int 0, .int 0, .ref m25, .ref m26, .int 0, .int 0, .ref m29, .ref m30, .ref m31, .ref m32, .int 0, .ref m34, .ref m35, .ref m36, .ref m37, .int 0, .int 0, .ref m40, .ref m41, .ref m42, .ref m43, .ref m44, .ref m45, .ref m46, .ref m47, .ref m48, .ref m49, .ref m50, .ref m51, .ref m52]))] := hD
  have hK : va_K (dC, dI) vwCl [(d53, .int), (crf, .int), (cnd, .int), (co, .long)] s := hK
  refine W.widen (k := 6561) (n := 850836) (by omega) (by omega) ?_
  obtain rfl : r102 = 0 := hw
  refine lv_istore (lv' := [(6, .int 0), (5, .int 1), (4, .int 0), (3, .ref o0), (2, .ref y0), (1, .ref x0), (0, .ref b)]) hx hb dL_law_2174 hl (by decide) rfl (fun ls hl => ?_)
  refine lv_aload_n hx hb dL_law_2176 rfl (lv_at hl 4 rfl) ?_
  have hPc := hP.sub (ws' := [(y0, .inr (10, [.int 1, .ref m1, .int 0, .int 0, .int 0, .int (-1), .int 0, .int 0, .ref m8, .int 0, .int 0, .ref m11, .ref m12, .ref m13, .ref m14, .ref m15, .ref m16, .ref m17, .ref m18, .ref m19, .ref m20, .ref m21, .int 0, .int 0, .int 0, .ref m25, .ref m26, .int 0, .int 0, .ref m29, .ref m30, .ref m31, .ref m32, .int 0, .ref m34, .ref m35, .ref m36, .ref m37, .int 0, .int 0, .ref m40, .ref m41, .ref m42, .ref m43, .ref m44, .ref m45, .ref m46, .ref m47, .ref m48, .ref m49, .ref m50, .ref m51, .ref m52]))]) [0] rfl
  have hDc := hD.sub (ws' := [(y0, .inr (10, [.int 1, .ref m1, .int 0, .int 0, .int 0, .int (-1), .int 0, .int 0, .ref m8, .int 0, .int 0, .ref m11, .ref m12, .ref m13, .ref m14, .ref m15, .ref m16, .ref m17, .ref m18, .ref m19, .ref m20, .ref m21, .int 0, .int 0, .int 0, .ref m25, .ref m26, .int 0, .int 0, .ref m29, .ref m30, .ref m31, .ref m32, .int 0, .ref m34, .ref m35, .ref m36, .ref m37, .int 0, .int 0, .ref m40, .ref m41, .ref m42, .ref m43, .ref m44, .ref m45, .ref m46, .ref m47, .ref m48, .ref m49, .ref m50, .ref m51, .ref m52]))]) [0] (by decide) rfl
  have hKc := hK.sub (tys' := []) [] rfl
  have hFc := va_free (wc := [(y0, .inr (10, [.int 1, .ref m1, .int 0, .int 0, .int 0, .int (-1), .int 0, .int 0, .ref m8, .int 0, .int 0, .ref m11, .ref m12, .ref m13, .ref m14, .ref m15, .ref m16, .ref m17, .ref m18, .ref m19, .ref m20, .ref m21, .int 0, .int 0, .int 0, .ref m25, .ref m26, .int 0, .int 0, .ref m29, .ref m30, .ref m31, .ref m32, .int 0, .ref m34, .ref m35, .ref m36, .ref m37, .int 0, .int 0, .ref m40, .ref m41, .ref m42, .ref m43, .ref m44, .ref m45, .ref m46, .ref m47, .ref m48, .ref m49, .ref m50, .ref m51, .ref m52]))]) hD hS hA [0] rfl
  refine va_calli (va_runV (As := []) (rest := []) ⟨hx, hb, hml, hown, hts⟩ (m_thrown l dC dI H.size (y0) (1) (m1) (0) (0) (0) ((-1)) (0) (0) (m8) (0) (0) (m11) (m12) (m13) (m14) (m15) (m16) (m17) (m18) (m19) (m20) (m21) (0) (0) (0) (m25) (m26) (0) (0) (m29) (m30) (m31) (m32) (0) (m34) (m35) (m36) (m37) (0) (0) (m40) (m41) (m42) (m43) (m44) (m45) (m46) (m47) (m48) (m49) (m50) (m51) (m52)) (cwV 0 hts (gV_G k1327 k1328 k1329 k13 k1330) rfl rfl rfl (by decide +kernel) ⟨Nat.le_of_ble_eq_true rfl, Nat.le_of_ble_eq_true rfl⟩) ⟨fun a U g mk q => by obtain ⟨q0, q1, qP, qK, qD⟩ := q; exact ⟨q0, q1, qP, va_K.moved (u := U) (U := U.calling g mk a) (Vm.Alike.refl U.vm) qK, qD⟩, va_recv hKc hPc (ci := 10) (q0 := 0) rfl rfl, fun U hU hW => ⟨rfl, by rw [hU], by rw [hU]; exact hPc, va_K.moved hW.alike hKc, hDc.weaken (fun _ _ _ _ => trivial)⟩⟩ rfl rfl hl.1 rfl (lv_room (Nat.le_of_ble_eq_true rfl)) dL_law_2177 ⟨Nat.le_of_ble_eq_true rfl, Nat.le_of_ble_eq_true rfl⟩) hS (fun q _ h => hFc q h) hFc (fun r103 u t H1 locs ht hvm hw hB hz1 hk1 hS => ?_)
  obtain ⟨hP1, hK1, hD1⟩ := hB
  rw [ht] at hP1
  have hK1 := va_K.moved hvm.symm hK1
  try dsimp only at hw
  obtain ⟨hP, hD⟩ := va_join (wr := []) (w1 := []) hP hD [0] [] rfl rfl (by decide) (by decide) hk1 hFc hP1 hD1
  have hK := hK.app hK1
  generalize H1 = H at hP hS ⊢
  have hP : va_P (dC, dI) vwCl [] H := hP
  have hD : va_D A [] := hD
  have hK : va_K (dC, dI) vwCl [(d53, .int), (crf, .int), (cnd, .int), (co, .long)] s := hK
  refine W.widen (k := 6561) (n := 850836) (by omega) (by omega) ?_
  obtain rfl : r103 = 1 := hw
  refine lv_iload hx hb dL_law_2180 (lv_at hl 1 rfl) ?_
  refine lv_icmp_eq (tgt := 2187) hx hb dL_law_2182 (by decide) (fun _ => ?_) (fun c9 => absurd (by decide +kernel) c9)
  refine lv_iload hx hb dL_law_2187 (lv_at hl 1 rfl) ?_
  refine lv_if_ne (tgt := 2204) hx hb dL_law_2189 (by decide) (fun _ => ?_) (fun c9 => absurd c9 (by decide +kernel))
  refine lv_goto (tgt := 2301) hx hb dL_law_2204 (by decide) ?_
  refine W.widen (k := 6567) (n := 850872) (by omega) (by omega) ?_
  exact hend H locs ls hS (lv_sub hl [2, 6] rfl)
set_option maxHeartbeats 4000000 in
set_option maxRecDepth 100000 in
theorem lc_greatest {p : Program} {l : Launch} {e : Env} {s : State} {m : MethodId} {below : List Frame} {meth : Method} {c : Code} {dC : Nat → ClassId} {dI : Nat → Nat → Nat} {A : Nat → Prop} {b : Nat} {xs : Nat → Int32} (C0 : lx_C p l s m c A b xs) {x0 w1 w6 w8 w15 w22 w26 w31 w35 w40 w48 w50 w52 w9 w10 w11 w12 w13 y0 m1 m8 m11 m12 m13 m14 m15 m16 m17 m18 m19 m20 m21 m25 m26 m29 m30 m31 m32 m34 m35 m36 m37 m40 m41 m42 m43 m44 m45 m46 m47 m48 m49 m50 m51 m52 o0 : Nat} {d53 crf cnd co : ClassId}  {v1 : Int32} (hs1 : xs (1 : Int32).toNatClampNeg = v1)
    (hend : ∀ (H : Heap) (locs : List Loc) (ls : Array Slot), va_S A s.heap H locs → lv_has ls 7 [(4, .int 0), (0, .ref b)] → W p l e room_1 s m #[Value.ref b] below meth c H locs 6567 850872 (lw_Z below #[Value.ref b] s) (F0 m 2301 ls []))
    {H : Heap} {locs : List Loc} {ls : Array Slot} (hP : va_P (dC, dI) vwCl [(x0, .inr (9, [.ref w1, .ref w6, .int 0, .ref w8, .ref w15, .int 0, .int 0, .ref w22, .ref w26, .ref w31, .ref w35, .ref w40, .ref w48, .ref w50, .ref w52])), (w52, .inl (d53, 3, .inl (fun _ => 0))), (w8, .inr (4, [.ref w9, .ref w10, .ref w11, .ref w12, .ref w13, .int 0, .int 0, .int 0])), (y0, .inr (10, [.int 0, .ref m1, .int 0, .int 0, .int 0, .int (-1), .int 0, .int 0, .ref m8, .int 0, .int 0, .ref m11, .ref m12, .ref m13, .ref m14, .ref m15, .ref m16, .ref m17, .ref m18, .ref m19, .ref m20, .ref m21, .int 0, .int 0, .int 0, .ref m25, .ref m26, .int 0, .int 0, .ref m29, .ref m30, .ref m31, .ref m32, .int 0, .ref m34, .ref m35, .ref m36, .ref m37, .int 0, .int 0, .ref m40, .ref m41, .ref m42, .ref m43, .ref m44, .ref m45, .ref m46, .ref m47, .ref m48, .ref m49, .ref m50, .ref m51, .ref m52])), (m1, .inl (crf, 3, .inl (fun _ => 0))), (m21, .inl (cnd, 70, .inl (fun _ => 0))), (o0, .inl (co, 1, .inr (.inl (fun _ => 0))))] H) (hD : va_D A [(x0, .inr (9, [.ref w1, .ref w6, .int 0, .ref w8, .ref w15, .int 0, .int 0, .ref w22, .ref w26, .ref w31, .ref w35, .ref w40, .ref w48, .ref w50, .ref w52])), (w52, .inl (d53, 3, .inl (fun _ => 0))), (w8, .inr (4, [.ref w9, .ref w10, .ref w11, .ref w12, .ref w13, .int 0, .int 0, .int 0])), (y0, .inr (10, [.int 0, .ref m1, .int 0, .int 0, .int 0, .int (-1), .int 0, .int 0, .ref m8, .int 0, .int 0, .ref m11, .ref m12, .ref m13, .ref m14, .ref m15, .ref m16, .ref m17, .ref m18, .ref m19, .ref m20, .ref m21, .int 0, .int 0, .int 0, .ref m25, .ref m26, .int 0, .int 0, .ref m29, .ref m30, .ref m31, .ref m32, .int 0, .ref m34, .ref m35, .ref m36, .ref m37, .int 0, .int 0, .ref m40, .ref m41, .ref m42, .ref m43, .ref m44, .ref m45, .ref m46, .ref m47, .ref m48, .ref m49, .ref m50, .ref m51, .ref m52])), (m1, .inl (crf, 3, .inl (fun _ => 0))), (m21, .inl (cnd, 70, .inl (fun _ => 0))), (o0, .inl (co, 1, .inr (.inl (fun _ => 0))))]) (hK : va_K (dC, dI) vwCl [(d53, .int), (crf, .int), (cnd, .int), (co, .long)] s) (hS : va_S A s.heap H locs) (hl : lv_has ls 7 [(4, .int 0), (3, .ref o0), (2, .ref y0), (1, .ref x0), (0, .ref b)]) : W p l e room_1 s m #[Value.ref b] below meth c H locs 6559 850824 (lw_Z below #[Value.ref b] s) (F0 m 2207 ls []) := by
  obtain ⟨hfl, hx, hb, hml, hown, hts, hX, hbl, hbA, hA, hEx, hNc⟩ := C0
  refine lv_aload_n hx hb dL_law_2207 rfl (lv_at hl 3 rfl) ?_
  refine lv_aload_n hx hb dL_law_2208 rfl (lv_at hl 4 rfl) ?_
  refine lv_iload hx hb dL_law_2209 (lv_at hl 0 rfl) ?_
  refine lv_iconst (v := 1) hx hb dL_law_2211 (by decide) ?_
  refine lv_iadd hx hb dL_law_2212 ?_
  refine lv_topi (fun x9 ex9 => ?_)
  obtain rfl : x9 = 1 := ex9.trans (by decide +kernel)
  refine va_sld hx hb hX hbl hbA hS (by unfold vp_in; decide +kernel) dL_law_2213 ?_
  refine lv_topi (fun x9 ex9 => ?_)
  obtain rfl : v1 = x9 := (ex9.trans hs1).symm
  refine lv_aload_n hx hb dL_law_2214 rfl (lv_at hl 1 rfl) ?_
  have hPc := hP.sub (ws' := [(x0, .inr (9, [.ref w1, .ref w6, .int 0, .ref w8, .ref w15, .int 0, .int 0, .ref w22, .ref w26, .ref w31, .ref w35, .ref w40, .ref w48, .ref w50, .ref w52])), (w52, .inl (d53, 3, .inl (fun _ => 0))), (w8, .inr (4, [.ref w9, .ref w10, .ref w11, .ref w12, .ref w13, .int 0, .int 0, .int 0])), (o0, .inl (co, 1, .inr (.inl (fun _ => 0))))]) [0, 1, 2, 6] rfl
  have hDc := hD.sub (ws' := [(x0, .inr (9, [.ref w1, .ref w6, .int 0, .ref w8, .ref w15, .int 0, .int 0, .ref w22, .ref w26, .ref w31, .ref w35, .ref w40, .ref w48, .ref w50, .ref w52])), (w52, .inl (d53, 3, .inl (fun _ => 0))), (w8, .inr (4, [.ref w9, .ref w10, .ref w11, .ref w12, .ref w13, .int 0, .int 0, .int 0])), (o0, .inl (co, 1, .inr (.inl (fun _ => 0))))]) [0, 1, 2, 6] (by decide) rfl
  have hKc := hK.sub (tys' := [(d53, .int), (co, .long)]) [0, 3] rfl
  have hFc := va_free (wc := [(x0, .inr (9, [.ref w1, .ref w6, .int 0, .ref w8, .ref w15, .int 0, .int 0, .ref w22, .ref w26, .ref w31, .ref w35, .ref w40, .ref w48, .ref w50, .ref w52])), (w52, .inl (d53, 3, .inl (fun _ => 0))), (w8, .inr (4, [.ref w9, .ref w10, .ref w11, .ref w12, .ref w13, .int 0, .int 0, .int 0])), (o0, .inl (co, 1, .inr (.inl (fun _ => 0))))]) hD hS hA [0, 1, 2, 6] rfl
  refine va_calli (vx_runSW (hh := [(0, 9, 12, 20)]) (As := [.ref x0, .int v1, .ref o0]) (rest := []) ⟨hx, hb, hml, hown, hts⟩ (w_greatest l hfl dC dI H.size (x0) (w1) (w6) (w8) (w15) (w22) (w26) (w31) (w35) (w40) (w48) (w50) (w52) (w9) (w10) (w11) (w12) (w13) (d53) (o0) (co) (v1)) (vx_cwSW 3 hts (gW_G k1149 k1150 k0 k1151) rfl rfl rfl (by decide +kernel) ⟨Nat.le_of_ble_eq_true rfl, Nat.le_of_ble_eq_true rfl⟩) ⟨fun a U g mk q => by obtain ⟨q0, q1, qP, qK, qD, qE⟩ := q; exact ⟨q0, q1, qP, va_K.moved (u := U) (U := U.calling g mk a) (Vm.Alike.refl U.vm) qK, qD, xX_call qE⟩, fun U hU hW => ⟨rfl, by rw [hU], by rw [hU]; exact hPc, va_K.moved hW.alike hKc, hDc.weaken (fun _ _ _ _ => trivial), xX_at hEx hS (fun q h => hFc q h) hU hW⟩⟩ rfl rfl hl.1 rfl (lv_room (Nat.le_of_ble_eq_true rfl)) dL_law_2215 ⟨Nat.le_of_ble_eq_true rfl, Nat.le_of_ble_eq_true rfl⟩) hS (fun q _ h => hFc q h) hFc (fun r101 u t H1 locs ht hvm hw hB hz1 hk1 hS => ?_)
  obtain ⟨hP1, hK1, hD1⟩ := hB
  rw [ht] at hP1
  have hK1 := va_K.moved hvm.symm hK1
  try dsimp only at hw
  obtain ⟨hP, hD⟩ := va_join (wr := [(y0, .inr (10, [.int 0, .ref m1, .int 0, .int 0, .int 0, .int (-1), .int 0, .int 0, .ref m8, .int 0, .int 0, .ref m11, .ref m12, .ref m13, .ref m14, .ref m15, .ref m16, .ref m17, .ref m18, .ref m19, .ref m20, .ref m21, .int 0, .int 0, .int 0, .ref m25, .ref m26, .int 0, .int 0, .ref m29, .ref m30, .ref m31, .ref m32, .int 0, .ref m34, .ref m35, .ref m36, .ref m37, .int 0, .int 0, .ref m40, .ref m41, .ref m42, .ref m43, .ref m44, .ref m45, .ref m46, .ref m47, .ref m48, .ref m49, .ref m50, .ref m51, .ref m52])), (m1, .inl (crf, 3, .inl (fun _ => 0))), (m21, .inl (cnd, 70, .inl (fun _ => 0)))]) (w1 := []) hP hD [0, 1, 2, 6] [3, 4, 5] rfl rfl (by decide) (by decide) hk1 hFc hP1 hD1
  have hK := hK.app hK1
  generalize H1 = H at hP hS ⊢
  have hP : va_P (dC, dI) vwCl [(y0, .inr (10, [.int 0, .ref m1, .int 0, .int 0, .int 0, .int (-1), .int 0, .int 0, .ref m8, .int 0, .int 0, .ref m11, .ref m12, .ref m13, .ref m14, .ref m15, .ref m16, .ref m17, .ref m18, .ref m19, .ref m20, .ref m21, .int 0, .int 0, .int 0, .ref m25, .ref m26, .int 0, .int 0, .ref m29, .ref m30, .ref m31, .ref m32, .int 0, .ref m34, .ref m35, .ref m36, .ref m37, .int 0, .int 0, .ref m40, .ref m41, .ref m42, .ref m43, .ref m44, .ref m45, .ref m46, .ref m47, .ref m48, .ref m49, .ref m50, .ref m51, .ref m52])), (m1, .inl (crf, 3, .inl (fun _ => 0))), (m21, .inl (cnd, 70, .inl (fun _ => 0)))] H := hP
  have hD : va_D A [(y0, .inr (10, [.int 0, .ref m1, .int 0, .int 0, .int 0, .int (-1), .int 0, .int 0, .ref m8, .int 0, .int 0, .ref m11, .ref m12, .ref m13, .ref m14, .ref m15, .ref m16, .ref m17, .ref m18, .ref m19, .ref m20, .ref m21, .int 0, .int 0, .int 0, .ref m25, .ref m26, .int 0, .int 0, .ref m29, .ref m30, .ref m31, .ref m32, .int 0, .ref m34, .ref m35, .ref m36, .ref m37, .int 0, .int 0, .ref m40, .ref m41, .ref m42, .ref m43, .ref m44, .ref m45, .ref m46, .ref m47, .ref m48, .ref m49, .ref m50, .ref m51, .ref m52])), (m1, .inl (crf, 3, .inl (fun _ => 0))), (m21, .inl (cnd, 70, .inl (fun _ => 0)))] := hD
  have hK : va_K (dC, dI) vwCl [(d53, .int), (crf, .int), (cnd, .int), (co, .long)] s := hK
  refine W.widen (k := 6561) (n := 850836) (by omega) (by omega) ?_
  obtain rfl : r101 = 1 := hw
  refine lv_istore (lv' := [(5, .int 1), (4, .int 0), (3, .ref o0), (2, .ref y0), (1, .ref x0), (0, .ref b)]) hx hb dL_law_2218 hl (by decide) rfl (fun ls hl => ?_)
  refine lv_aload_n hx hb dL_law_2220 rfl (lv_at hl 3 rfl) ?_
  refine lv_aload_n hx hb dL_law_2221 rfl (lv_at hl 5 rfl) ?_
  refine lv_iload hx hb dL_law_2222 (lv_at hl 1 rfl) ?_
  refine lv_iconst (v := 1) hx hb dL_law_2224 (by decide) ?_
  refine lv_iadd hx hb dL_law_2225 ?_
  refine lv_topi (fun x9 ex9 => ?_)
  obtain rfl : x9 = 1 := ex9.trans (by decide +kernel)
  refine va_sld hx hb hX hbl hbA hS (by unfold vp_in; decide +kernel) dL_law_2226 ?_
  refine lv_topi (fun x9 ex9 => ?_)
  obtain rfl : v1 = x9 := (ex9.trans hs1).symm
  have hPc := hP.sub (ws' := [(y0, .inr (10, [.int 0, .ref m1, .int 0, .int 0, .int 0, .int (-1), .int 0, .int 0, .ref m8, .int 0, .int 0, .ref m11, .ref m12, .ref m13, .ref m14, .ref m15, .ref m16, .ref m17, .ref m18, .ref m19, .ref m20, .ref m21, .int 0, .int 0, .int 0, .ref m25, .ref m26, .int 0, .int 0, .ref m29, .ref m30, .ref m31, .ref m32, .int 0, .ref m34, .ref m35, .ref m36, .ref m37, .int 0, .int 0, .ref m40, .ref m41, .ref m42, .ref m43, .ref m44, .ref m45, .ref m46, .ref m47, .ref m48, .ref m49, .ref m50, .ref m51, .ref m52])), (m1, .inl (crf, 3, .inl (fun _ => 0))), (m21, .inl (cnd, 70, .inl (fun _ => 0)))]) [0, 1, 2] rfl
  have hDc := hD.sub (ws' := [(y0, .inr (10, [.int 0, .ref m1, .int 0, .int 0, .int 0, .int (-1), .int 0, .int 0, .ref m8, .int 0, .int 0, .ref m11, .ref m12, .ref m13, .ref m14, .ref m15, .ref m16, .ref m17, .ref m18, .ref m19, .ref m20, .ref m21, .int 0, .int 0, .int 0, .ref m25, .ref m26, .int 0, .int 0, .ref m29, .ref m30, .ref m31, .ref m32, .int 0, .ref m34, .ref m35, .ref m36, .ref m37, .int 0, .int 0, .ref m40, .ref m41, .ref m42, .ref m43, .ref m44, .ref m45, .ref m46, .ref m47, .ref m48, .ref m49, .ref m50, .ref m51, .ref m52])), (m1, .inl (crf, 3, .inl (fun _ => 0))), (m21, .inl (cnd, 70, .inl (fun _ => 0)))]) [0, 1, 2] (by decide) rfl
  have hKc := hK.sub (tys' := [(crf, .int), (cnd, .int)]) [1, 2] rfl
  have hFc := va_free (wc := [(y0, .inr (10, [.int 0, .ref m1, .int 0, .int 0, .int 0, .int (-1), .int 0, .int 0, .ref m8, .int 0, .int 0, .ref m11, .ref m12, .ref m13, .ref m14, .ref m15, .ref m16, .ref m17, .ref m18, .ref m19, .ref m20, .ref m21, .int 0, .int 0, .int 0, .ref m25, .ref m26, .int 0, .int 0, .ref m29, .ref m30, .ref m31, .ref m32, .int 0, .ref m34, .ref m35, .ref m36, .ref m37, .int 0, .int 0, .ref m40, .ref m41, .ref m42, .ref m43, .ref m44, .ref m45, .ref m46, .ref m47, .ref m48, .ref m49, .ref m50, .ref m51, .ref m52])), (m1, .inl (crf, 3, .inl (fun _ => 0))), (m21, .inl (cnd, 70, .inl (fun _ => 0)))]) hD hS hA [0, 1, 2] rfl
  refine va_calli (va_runV (As := [.int v1]) (rest := []) ⟨hx, hb, hml, hown, hts⟩ (m_greatest l dC dI H.size (y0) (m1) (m8) (m11) (m12) (m13) (m14) (m15) (m16) (m17) (m18) (m19) (m20) (m21) (m25) (m26) (m29) (m30) (m31) (m32) (m34) (m35) (m36) (m37) (m40) (m41) (m42) (m43) (m44) (m45) (m46) (m47) (m48) (m49) (m50) (m51) (m52) (crf) (cnd) (v1)) (cwV 1 hts (gV_G k1691 k1692 k1693 k13 k1694) rfl rfl rfl (by decide +kernel) ⟨Nat.le_of_ble_eq_true rfl, Nat.le_of_ble_eq_true rfl⟩) ⟨fun a U g mk q => by obtain ⟨q0, q1, qP, qK, qD⟩ := q; exact ⟨q0, q1, qP, va_K.moved (u := U) (U := U.calling g mk a) (Vm.Alike.refl U.vm) qK, qD⟩, va_recv hKc hPc (ci := 10) (q0 := 0) rfl rfl, fun U hU hW => ⟨rfl, by rw [hU], by rw [hU]; exact hPc, va_K.moved hW.alike hKc, hDc.weaken (fun _ _ _ _ => trivial)⟩⟩ rfl rfl hl.1 rfl (lv_room (Nat.le_of_ble_eq_true rfl)) dL_law_2227 ⟨Nat.le_of_ble_eq_true rfl, Nat.le_of_ble_eq_true rfl⟩) hS (fun q _ h => hFc q h) hFc (fun r102 u t H1 locs ht hvm hw hB hz1 hk1 hS => ?_)
  obtain ⟨hP1, hK1, hD1⟩ := hB
  rw [ht] at hP1
  have hK1 := va_K.moved hvm.symm hK1
  try dsimp only at hw
  obtain ⟨hP, hD⟩ := va_join (wr := []) (w1 := [(y0, .inr (10, [.int 1, .ref m1, .int 0, .int 0, .int 0, .int (-1), .int 0, .int 0, .ref m8, .int 0, .int 0, .ref m11, .ref m12, .ref m13, .ref m14, .ref m15, .ref m16, .ref m17, .ref m18, .ref m19, .ref m20, .ref m21, .int 0, .int 0, .int 0, .ref m25, .ref m26, .int 0, .int 0, .ref m29, .ref m30, .ref m31, .ref m32, .int 0, .ref m34, .ref m35, .ref m36, .ref m37, .int 0, .int 0, .ref m40, .ref m41, .ref m42, .ref m43, .ref m44, .ref m45, .ref m46, .ref m47, .ref m48, .ref m49, .ref m50, .ref m51, .ref m52]))]) hP hD [0, 1, 2] [] rfl rfl (by decide) (by decide) hk1 hFc hP1 hD1
  have hK := hK.app hK1
  generalize H1 = H at hP hS ⊢
  have hP : va_P (dC, dI) vwCl [(y0, .inr (10, [.int 1, .ref m1, .int 0, .int 0, .int 0, .int (-1), .int 0, .int 0, .ref m8, .int 0, .int 0, .ref m11, .ref m12, .ref m13, .ref m14, .ref m15, .ref m16, .ref m17, .ref m18, .ref m19, .ref m20, .ref m21, .int 0, .int 0, .int 0, .ref m25, .ref m26, .int 0, .int 0, .ref m29, .ref m30, .ref m31, .ref m32, .int 0, .ref m34, .ref m35, .ref m36, .ref m37, .int 0, .int 0, .ref m40, .ref m41, .ref m42, .ref m43, .ref m44, .ref m45, .ref m46, .ref m47, .ref m48, .ref m49, .ref m50, .ref m51, .ref m52]))] H := hP
  have hD : va_D A [(y0, .inr (10, [.int 1, .ref m1, .int 0, .int 0, .int 0, .int (-1), .int 0, .int 0, .ref m8, .int 0, .int 0, .ref m11, .ref m12, .ref m13, .ref m14, .ref m15, .ref m16, .ref m17, .ref m18, .ref m19, .ref m20, .ref m21, .int 0, .int 0, .int 0, .ref m25, .ref m26, .int 0, .int 0, .ref m29, .ref m30, .ref m31, .ref m32, .int 0, .ref m34, .ref m35, .ref m36, .ref m37, .int 0, .int 0, .ref m40, .ref m41, .ref m42, .ref m43, .ref m44, .ref m45, .ref m46, .ref m47, .ref m48, .ref m49, .ref m50, .ref m51, .ref m52]))] := hD
  have hK : va_K (dC, dI) vwCl [(d53, .int), (crf, .int), (cnd, .int), (co, .long)] s := hK
  refine W.widen (k := 6561) (n := 850836) (by omega) (by omega) ?_
  obtain rfl : r102 = 0 := hw
  refine lv_istore (lv' := [(6, .int 0), (5, .int 1), (4, .int 0), (3, .ref o0), (2, .ref y0), (1, .ref x0), (0, .ref b)]) hx hb dL_law_2230 hl (by decide) rfl (fun ls hl => ?_)
  refine lv_aload_n hx hb dL_law_2232 rfl (lv_at hl 4 rfl) ?_
  have hPc := hP.sub (ws' := [(y0, .inr (10, [.int 1, .ref m1, .int 0, .int 0, .int 0, .int (-1), .int 0, .int 0, .ref m8, .int 0, .int 0, .ref m11, .ref m12, .ref m13, .ref m14, .ref m15, .ref m16, .ref m17, .ref m18, .ref m19, .ref m20, .ref m21, .int 0, .int 0, .int 0, .ref m25, .ref m26, .int 0, .int 0, .ref m29, .ref m30, .ref m31, .ref m32, .int 0, .ref m34, .ref m35, .ref m36, .ref m37, .int 0, .int 0, .ref m40, .ref m41, .ref m42, .ref m43, .ref m44, .ref m45, .ref m46, .ref m47, .ref m48, .ref m49, .ref m50, .ref m51, .ref m52]))]) [0] rfl
  have hDc := hD.sub (ws' := [(y0, .inr (10, [.int 1, .ref m1, .int 0, .int 0, .int 0, .int (-1), .int 0, .int 0, .ref m8, .int 0, .int 0, .ref m11, .ref m12, .ref m13, .ref m14, .ref m15, .ref m16, .ref m17, .ref m18, .ref m19, .ref m20, .ref m21, .int 0, .int 0, .int 0, .ref m25, .ref m26, .int 0, .int 0, .ref m29, .ref m30, .ref m31, .ref m32, .int 0, .ref m34, .ref m35, .ref m36, .ref m37, .int 0, .int 0, .ref m40, .ref m41, .ref m42, .ref m43, .ref m44, .ref m45, .ref m46, .ref m47, .ref m48, .ref m49, .ref m50, .ref m51, .ref m52]))]) [0] (by decide) rfl
  have hKc := hK.sub (tys' := []) [] rfl
  have hFc := va_free (wc := [(y0, .inr (10, [.int 1, .ref m1, .int 0, .int 0, .int 0, .int (-1), .int 0, .int 0, .ref m8, .int 0, .int 0, .ref m11, .ref m12, .ref m13, .ref m14, .ref m15, .ref m16, .ref m17, .ref m18, .ref m19, .ref m20, .ref m21, .int 0, .int 0, .int 0, .ref m25, .ref m26, .int 0, .int 0, .ref m29, .ref m30, .ref m31, .ref m32, .int 0, .ref m34, .ref m35, .ref m36, .ref m37, .int 0, .int 0, .ref m40, .ref m41, .ref m42, .ref m43, .ref m44, .ref m45, .ref m46, .ref m47, .ref m48, .ref m49, .ref m50, .ref m51, .ref m52]))]) hD hS hA [0] rfl
  refine va_calli (va_runV (As := []) (rest := []) ⟨hx, hb, hml, hown, hts⟩ (m_thrown l dC dI H.size (y0) (1) (m1) (0) (0) (0) ((-1)) (0) (0) (m8) (0) (0) (m11) (m12) (m13) (m14) (m15) (m16) (m17) (m18) (m19) (m20) (m21) (0) (0) (0) (m25) (m26) (0) (0) (m29) (m30) (m31) (m32) (0) (m34) (m35) (m36) (m37) (0) (0) (m40) (m41) (m42) (m43) (m44) (m45) (m46) (m47) (m48) (m49) (m50) (m51) (m52)) (cwV 0 hts (gV_G k1327 k1328 k1329 k13 k1330) rfl rfl rfl (by decide +kernel) ⟨Nat.le_of_ble_eq_true rfl, Nat.le_of_ble_eq_true rfl⟩) ⟨fun a U g mk q => by obtain ⟨q0, q1, qP, qK, qD⟩ := q; exact ⟨q0, q1, qP, va_K.moved (u := U) (U := U.calling g mk a) (Vm.Alike.refl U.vm) qK, qD⟩, va_recv hKc hPc (ci := 10) (q0 := 0) rfl rfl, fun U hU hW => ⟨rfl, by rw [hU], by rw [hU]; exact hPc, va_K.moved hW.alike hKc, hDc.weaken (fun _ _ _ _ => trivial)⟩⟩ rfl rfl hl.1 rfl (lv_room (Nat.le_of_ble_eq_true rfl)) dL_law_2233 ⟨Nat.le_of_ble_eq_true rfl, Nat.le_of_ble_eq_true rfl⟩) hS (fun q _ h => hFc q h) hFc (fun r103 u t H1 locs ht hvm hw hB hz1 hk1 hS => ?_)
  obtain ⟨hP1, hK1, hD1⟩ := hB
  rw [ht] at hP1
  have hK1 := va_K.moved hvm.symm hK1
  try dsimp only at hw
  obtain ⟨hP, hD⟩ := va_join (wr := []) (w1 := []) hP hD [0] [] rfl rfl (by decide) (by decide) hk1 hFc hP1 hD1
  have hK := hK.app hK1
  generalize H1 = H at hP hS ⊢
  have hP : va_P (dC, dI) vwCl [] H := hP
  have hD : va_D A [] := hD
  have hK : va_K (dC, dI) vwCl [(d53, .int), (crf, .int), (cnd, .int), (co, .long)] s := hK
  refine W.widen (k := 6561) (n := 850836) (by omega) (by omega) ?_
  obtain rfl : r103 = 1 := hw
  refine lv_iload hx hb dL_law_2236 (lv_at hl 1 rfl) ?_
  refine lv_icmp_eq (tgt := 2243) hx hb dL_law_2238 (by decide) (fun _ => ?_) (fun c9 => absurd (by decide +kernel) c9)
  refine lv_iload hx hb dL_law_2243 (lv_at hl 1 rfl) ?_
  refine lv_if_ne (tgt := 2260) hx hb dL_law_2245 (by decide) (fun _ => ?_) (fun c9 => absurd c9 (by decide +kernel))
  refine lv_goto (tgt := 2301) hx hb dL_law_2260 (by decide) ?_
  refine W.widen (k := 6567) (n := 850872) (by omega) (by omega) ?_
  exact hend H locs ls hS (lv_sub hl [2, 6] rfl)
set_option maxHeartbeats 4000000 in
set_option maxRecDepth 100000 in
theorem lc_page0 {p : Program} {l : Launch} {e : Env} {s : State} {m : MethodId} {below : List Frame} {meth : Method} {c : Code} {dC : Nat → ClassId} {dI : Nat → Nat → Nat} {A : Nat → Prop} {b : Nat} {xs : Nat → Int32} (C0 : lx_C p l s m c A b xs) {x0 w1 w6 w8 w15 w22 w26 w31 w35 w40 w48 w50 w52 w2 w3 w4 y0 m1 m8 m11 m12 m13 m14 m15 m16 m17 m18 m19 m20 m21 m25 m26 m29 m30 m31 m32 m34 m35 m36 m37 m40 m41 m42 m43 m44 m45 m46 m47 m48 m49 m50 m51 m52 o0 : Nat} {crf co : ClassId}   (hs1 : xs (1 : Int32).toNatClampNeg = 0)
    (hend : ∀ (H : Heap) (locs : List Loc) (ls : Array Slot), va_S A s.heap H locs → lv_has ls 7 [(4, .int 0), (0, .ref b)] → W p l e room_1 s m #[Value.ref b] below meth c H locs 6567 850872 (lw_Z below #[Value.ref b] s) (F0 m 2301 ls []))
    {H : Heap} {locs : List Loc} {ls : Array Slot} (hP : va_P (dC, dI) vwCl [(x0, .inr (9, [.ref w1, .ref w6, .int 0, .ref w8, .ref w15, .int 0, .int 0, .ref w22, .ref w26, .ref w31, .ref w35, .ref w40, .ref w48, .ref w50, .ref w52])), (w1, .inr (5, [.ref w2, .int 0, .ref w3, .int 0, .ref w4, .int 0, .int (-1), .int 0])), (y0, .inr (10, [.int 0, .ref m1, .int 0, .int 0, .int 0, .int (-1), .int 0, .int 0, .ref m8, .int 0, .int 0, .ref m11, .ref m12, .ref m13, .ref m14, .ref m15, .ref m16, .ref m17, .ref m18, .ref m19, .ref m20, .ref m21, .int 0, .int 0, .int 0, .ref m25, .ref m26, .int 0, .int 0, .ref m29, .ref m30, .ref m31, .ref m32, .int 0, .ref m34, .ref m35, .ref m36, .ref m37, .int 0, .int 0, .ref m40, .ref m41, .ref m42, .ref m43, .ref m44, .ref m45, .ref m46, .ref m47, .ref m48, .ref m49, .ref m50, .ref m51, .ref m52])), (m1, .inl (crf, 3, .inl (fun _ => 0))), (o0, .inl (co, 1, .inr (.inl (fun _ => 0))))] H) (hD : va_D A [(x0, .inr (9, [.ref w1, .ref w6, .int 0, .ref w8, .ref w15, .int 0, .int 0, .ref w22, .ref w26, .ref w31, .ref w35, .ref w40, .ref w48, .ref w50, .ref w52])), (w1, .inr (5, [.ref w2, .int 0, .ref w3, .int 0, .ref w4, .int 0, .int (-1), .int 0])), (y0, .inr (10, [.int 0, .ref m1, .int 0, .int 0, .int 0, .int (-1), .int 0, .int 0, .ref m8, .int 0, .int 0, .ref m11, .ref m12, .ref m13, .ref m14, .ref m15, .ref m16, .ref m17, .ref m18, .ref m19, .ref m20, .ref m21, .int 0, .int 0, .int 0, .ref m25, .ref m26, .int 0, .int 0, .ref m29, .ref m30, .ref m31, .ref m32, .int 0, .ref m34, .ref m35, .ref m36, .ref m37, .int 0, .int 0, .ref m40, .ref m41, .ref m42, .ref m43, .ref m44, .ref m45, .ref m46, .ref m47, .ref m48, .ref m49, .ref m50, .ref m51, .ref m52])), (m1, .inl (crf, 3, .inl (fun _ => 0))), (o0, .inl (co, 1, .inr (.inl (fun _ => 0))))]) (hK : va_K (dC, dI) vwCl [(crf, .int), (co, .long)] s) (hS : va_S A s.heap H locs) (hl : lv_has ls 7 [(4, .int 0), (3, .ref o0), (2, .ref y0), (1, .ref x0), (0, .ref b)]) : W p l e room_1 s m #[Value.ref b] below meth c H locs 6559 850824 (lw_Z below #[Value.ref b] s) (F0 m 281 ls []) := by
  obtain ⟨hfl, hx, hb, hml, hown, hts, hX, hbl, hbA, hA, hEx, hNc⟩ := C0
  refine lv_aload_n hx hb dL_law_281 rfl (lv_at hl 3 rfl) ?_
  refine lv_aload_n hx hb dL_law_282 rfl (lv_at hl 4 rfl) ?_
  refine lv_iload hx hb dL_law_283 (lv_at hl 0 rfl) ?_
  refine lv_iconst (v := 1) hx hb dL_law_285 (by decide) ?_
  refine lv_iadd hx hb dL_law_286 ?_
  refine lv_topi (fun x9 ex9 => ?_)
  obtain rfl : x9 = 1 := ex9.trans (by decide +kernel)
  refine va_sld hx hb hX hbl hbA hS (by unfold vp_in; decide +kernel) dL_law_287 ?_
  refine lv_topi (fun x9 ex9 => ?_)
  obtain rfl : x9 = 0 := ex9.trans hs1
  refine lv_aload_n hx hb dL_law_288 rfl (lv_at hl 1 rfl) ?_
  have hPc := hP.sub (ws' := [(x0, .inr (9, [.ref w1, .ref w6, .int 0, .ref w8, .ref w15, .int 0, .int 0, .ref w22, .ref w26, .ref w31, .ref w35, .ref w40, .ref w48, .ref w50, .ref w52])), (w1, .inr (5, [.ref w2, .int 0, .ref w3, .int 0, .ref w4, .int 0, .int (-1), .int 0])), (o0, .inl (co, 1, .inr (.inl (fun _ => 0))))]) [0, 1, 4] rfl
  have hDc := hD.sub (ws' := [(x0, .inr (9, [.ref w1, .ref w6, .int 0, .ref w8, .ref w15, .int 0, .int 0, .ref w22, .ref w26, .ref w31, .ref w35, .ref w40, .ref w48, .ref w50, .ref w52])), (w1, .inr (5, [.ref w2, .int 0, .ref w3, .int 0, .ref w4, .int 0, .int (-1), .int 0])), (o0, .inl (co, 1, .inr (.inl (fun _ => 0))))]) [0, 1, 4] (by decide) rfl
  have hKc := hK.sub (tys' := [(co, .long)]) [1] rfl
  have hFc := va_free (wc := [(x0, .inr (9, [.ref w1, .ref w6, .int 0, .ref w8, .ref w15, .int 0, .int 0, .ref w22, .ref w26, .ref w31, .ref w35, .ref w40, .ref w48, .ref w50, .ref w52])), (w1, .inr (5, [.ref w2, .int 0, .ref w3, .int 0, .ref w4, .int 0, .int (-1), .int 0])), (o0, .inl (co, 1, .inr (.inl (fun _ => 0))))]) hD hS hA [0, 1, 4] rfl
  refine va_calli (vx_runSW (hh := [(0, 9, 12, 13), (0, 9, 15, 15)]) (As := [.ref x0, .int 0, .ref o0]) (rest := []) ⟨hx, hb, hml, hown, hts⟩ (w_page l hfl dC dI H.size (x0) (w1) (w6) (w8) (w15) (w22) (w26) (w31) (w35) (w40) (w48) (w50) (w52) (w2) (w3) (w4) (o0) (co)) (vx_cwSW 3 hts (gW_G k587 k588 k0 k589) rfl rfl rfl (by decide +kernel) ⟨Nat.le_of_ble_eq_true rfl, Nat.le_of_ble_eq_true rfl⟩) ⟨fun a U g mk q => by obtain ⟨q0, q1, qP, qK, qD, qE⟩ := q; exact ⟨q0, q1, qP, va_K.moved (u := U) (U := U.calling g mk a) (Vm.Alike.refl U.vm) qK, qD, xX_call qE⟩, fun U hU hW => ⟨rfl, by rw [hU], by rw [hU]; exact hPc, va_K.moved hW.alike hKc, hDc.weaken (fun _ _ _ _ => trivial), xX_at hEx hS (fun q h => hFc q h) hU hW⟩⟩ rfl rfl hl.1 rfl (lv_room (Nat.le_of_ble_eq_true rfl)) dL_law_289 ⟨Nat.le_of_ble_eq_true rfl, Nat.le_of_ble_eq_true rfl⟩) hS (fun q _ h => hFc q h) hFc (fun r101 u t H1 locs ht hvm hw hB hz1 hk1 hS => ?_)
  obtain ⟨hP1, hK1, hD1⟩ := hB
  rw [ht] at hP1
  have hK1 := va_K.moved hvm.symm hK1
  try dsimp only at hw
  obtain ⟨hP, hD⟩ := va_join (wr := [(y0, .inr (10, [.int 0, .ref m1, .int 0, .int 0, .int 0, .int (-1), .int 0, .int 0, .ref m8, .int 0, .int 0, .ref m11, .ref m12, .ref m13, .ref m14, .ref m15, .ref m16, .ref m17, .ref m18, .ref m19, .ref m20, .ref m21, .int 0, .int 0, .int 0, .ref m25, .ref m26, .int 0, .int 0, .ref m29, .ref m30, .ref m31, .ref m32, .int 0, .ref m34, .ref m35, .ref m36, .ref m37, .int 0, .int 0, .ref m40, .ref m41, .ref m42, .ref m43, .ref m44, .ref m45, .ref m46, .ref m47, .ref m48, .ref m49, .ref m50, .ref m51, .ref m52])), (m1, .inl (crf, 3, .inl (fun _ => 0)))]) (w1 := [(o0, .inl (co, 1, .inr (.inl (vp_updL (fun _ => 0) (0 : Int32).toNatClampNeg ((-9))))))]) hP hD [0, 1, 4] [2, 3] rfl rfl (by decide) (by decide) hk1 hFc hP1 hD1
  have hK := hK.app hK1
  generalize H1 = H at hP hS ⊢
  have hP : va_P (dC, dI) vwCl [(y0, .inr (10, [.int 0, .ref m1, .int 0, .int 0, .int 0, .int (-1), .int 0, .int 0, .ref m8, .int 0, .int 0, .ref m11, .ref m12, .ref m13, .ref m14, .ref m15, .ref m16, .ref m17, .ref m18, .ref m19, .ref m20, .ref m21, .int 0, .int 0, .int 0, .ref m25, .ref m26, .int 0, .int 0, .ref m29, .ref m30, .ref m31, .ref m32, .int 0, .ref m34, .ref m35, .ref m36, .ref m37, .int 0, .int 0, .ref m40, .ref m41, .ref m42, .ref m43, .ref m44, .ref m45, .ref m46, .ref m47, .ref m48, .ref m49, .ref m50, .ref m51, .ref m52])), (m1, .inl (crf, 3, .inl (fun _ => 0))), (o0, .inl (co, 1, .inr (.inl (vp_updL (fun _ => 0) (0 : Int32).toNatClampNeg ((-9))))))] H := hP
  have hD : va_D A [(y0, .inr (10, [.int 0, .ref m1, .int 0, .int 0, .int 0, .int (-1), .int 0, .int 0, .ref m8, .int 0, .int 0, .ref m11, .ref m12, .ref m13, .ref m14, .ref m15, .ref m16, .ref m17, .ref m18, .ref m19, .ref m20, .ref m21, .int 0, .int 0, .int 0, .ref m25, .ref m26, .int 0, .int 0, .ref m29, .ref m30, .ref m31, .ref m32, .int 0, .ref m34, .ref m35, .ref m36, .ref m37, .int 0, .int 0, .ref m40, .ref m41, .ref m42, .ref m43, .ref m44, .ref m45, .ref m46, .ref m47, .ref m48, .ref m49, .ref m50, .ref m51, .ref m52])), (m1, .inl (crf, 3, .inl (fun _ => 0))), (o0, .inl (co, 1, .inr (.inl (vp_updL (fun _ => 0) (0 : Int32).toNatClampNeg ((-9))))))] := hD
  have hK : va_K (dC, dI) vwCl [(crf, .int), (co, .long), (co, .long)] s := hK
  refine W.widen (k := 6559) (n := 850824) (by omega) (by omega) ?_
  obtain rfl : r101 = 0 := hw
  refine lv_istore (lv' := [(5, .int 0), (4, .int 0), (3, .ref o0), (2, .ref y0), (1, .ref x0), (0, .ref b)]) hx hb dL_law_292 hl (by decide) rfl (fun ls hl => ?_)
  refine lv_aload_n hx hb dL_law_294 rfl (lv_at hl 3 rfl) ?_
  refine lv_aload_n hx hb dL_law_295 rfl (lv_at hl 5 rfl) ?_
  refine lv_iload hx hb dL_law_296 (lv_at hl 1 rfl) ?_
  refine lv_iconst (v := 1) hx hb dL_law_298 (by decide) ?_
  refine lv_iadd hx hb dL_law_299 ?_
  refine lv_topi (fun x9 ex9 => ?_)
  obtain rfl : x9 = 1 := ex9.trans (by decide +kernel)
  refine va_sld hx hb hX hbl hbA hS (by unfold vp_in; decide +kernel) dL_law_300 ?_
  refine lv_topi (fun x9 ex9 => ?_)
  obtain rfl : x9 = 0 := ex9.trans hs1
  have hPc := hP.sub (ws' := [(y0, .inr (10, [.int 0, .ref m1, .int 0, .int 0, .int 0, .int (-1), .int 0, .int 0, .ref m8, .int 0, .int 0, .ref m11, .ref m12, .ref m13, .ref m14, .ref m15, .ref m16, .ref m17, .ref m18, .ref m19, .ref m20, .ref m21, .int 0, .int 0, .int 0, .ref m25, .ref m26, .int 0, .int 0, .ref m29, .ref m30, .ref m31, .ref m32, .int 0, .ref m34, .ref m35, .ref m36, .ref m37, .int 0, .int 0, .ref m40, .ref m41, .ref m42, .ref m43, .ref m44, .ref m45, .ref m46, .ref m47, .ref m48, .ref m49, .ref m50, .ref m51, .ref m52])), (m1, .inl (crf, 3, .inl (fun _ => 0)))]) [0, 1] rfl
  have hDc := hD.sub (ws' := [(y0, .inr (10, [.int 0, .ref m1, .int 0, .int 0, .int 0, .int (-1), .int 0, .int 0, .ref m8, .int 0, .int 0, .ref m11, .ref m12, .ref m13, .ref m14, .ref m15, .ref m16, .ref m17, .ref m18, .ref m19, .ref m20, .ref m21, .int 0, .int 0, .int 0, .ref m25, .ref m26, .int 0, .int 0, .ref m29, .ref m30, .ref m31, .ref m32, .int 0, .ref m34, .ref m35, .ref m36, .ref m37, .int 0, .int 0, .ref m40, .ref m41, .ref m42, .ref m43, .ref m44, .ref m45, .ref m46, .ref m47, .ref m48, .ref m49, .ref m50, .ref m51, .ref m52])), (m1, .inl (crf, 3, .inl (fun _ => 0)))]) [0, 1] (by decide) rfl
  have hKc := hK.sub (tys' := [(crf, .int)]) [0] rfl
  have hFc := va_free (wc := [(y0, .inr (10, [.int 0, .ref m1, .int 0, .int 0, .int 0, .int (-1), .int 0, .int 0, .ref m8, .int 0, .int 0, .ref m11, .ref m12, .ref m13, .ref m14, .ref m15, .ref m16, .ref m17, .ref m18, .ref m19, .ref m20, .ref m21, .int 0, .int 0, .int 0, .ref m25, .ref m26, .int 0, .int 0, .ref m29, .ref m30, .ref m31, .ref m32, .int 0, .ref m34, .ref m35, .ref m36, .ref m37, .int 0, .int 0, .ref m40, .ref m41, .ref m42, .ref m43, .ref m44, .ref m45, .ref m46, .ref m47, .ref m48, .ref m49, .ref m50, .ref m51, .ref m52])), (m1, .inl (crf, 3, .inl (fun _ => 0)))]) hD hS hA [0, 1] rfl
  refine va_calli (va_runV (As := [.int 0]) (rest := []) ⟨hx, hb, hml, hown, hts⟩ (m_page l dC dI H.size (y0) (m1) (m8) (m11) (m12) (m13) (m14) (m15) (m16) (m17) (m18) (m19) (m20) (m21) (m25) (m26) (m29) (m30) (m31) (m32) (m34) (m35) (m36) (m37) (m40) (m41) (m42) (m43) (m44) (m45) (m46) (m47) (m48) (m49) (m50) (m51) (m52) (crf)) (cwV 1 hts (gV_G k1335 k1336 k1337 k13 k1338) rfl rfl rfl (by decide +kernel) ⟨Nat.le_of_ble_eq_true rfl, Nat.le_of_ble_eq_true rfl⟩) ⟨fun a U g mk q => by obtain ⟨q0, q1, qP, qK, qD⟩ := q; exact ⟨q0, q1, qP, va_K.moved (u := U) (U := U.calling g mk a) (Vm.Alike.refl U.vm) qK, qD⟩, va_recv hKc hPc (ci := 10) (q0 := 0) rfl rfl, fun U hU hW => ⟨rfl, by rw [hU], by rw [hU]; exact hPc, va_K.moved hW.alike hKc, hDc.weaken (fun _ _ _ _ => trivial)⟩⟩ rfl rfl hl.1 rfl (lv_room (Nat.le_of_ble_eq_true rfl)) dL_law_301 ⟨Nat.le_of_ble_eq_true rfl, Nat.le_of_ble_eq_true rfl⟩) hS (fun q _ h => hFc q h) hFc (fun r102 u t H1 locs ht hvm hw hB hz1 hk1 hS => ?_)
  obtain ⟨hP1, hK1, hD1⟩ := hB
  rw [ht] at hP1
  have hK1 := va_K.moved hvm.symm hK1
  try dsimp only at hw
  obtain ⟨hP, hD⟩ := va_join (wr := [(o0, .inl (co, 1, .inr (.inl (vp_updL (fun _ => 0) (0 : Int32).toNatClampNeg ((-9))))))]) (w1 := [(y0, .inr (10, [.int 0, .ref m1, .int 0, .int 0, .int 0, .int 0, .int 1, .int 0, .ref m8, .int 0, .int 0, .ref m11, .ref m12, .ref m13, .ref m14, .ref m15, .ref m16, .ref m17, .ref m18, .ref m19, .ref m20, .ref m21, .int 0, .int 0, .int 0, .ref m25, .ref m26, .int 0, .int 0, .ref m29, .ref m30, .ref m31, .ref m32, .int 0, .ref m34, .ref m35, .ref m36, .ref m37, .int 0, .int 0, .ref m40, .ref m41, .ref m42, .ref m43, .ref m44, .ref m45, .ref m46, .ref m47, .ref m48, .ref m49, .ref m50, .ref m51, .ref m52]))]) hP hD [0, 1] [2] rfl rfl (by decide) (by decide) hk1 hFc hP1 hD1
  have hK := hK.app hK1
  generalize H1 = H at hP hS ⊢
  have hP : va_P (dC, dI) vwCl [(o0, .inl (co, 1, .inr (.inl (vp_updL (fun _ => 0) (0 : Int32).toNatClampNeg ((-9)))))), (y0, .inr (10, [.int 0, .ref m1, .int 0, .int 0, .int 0, .int 0, .int 1, .int 0, .ref m8, .int 0, .int 0, .ref m11, .ref m12, .ref m13, .ref m14, .ref m15, .ref m16, .ref m17, .ref m18, .ref m19, .ref m20, .ref m21, .int 0, .int 0, .int 0, .ref m25, .ref m26, .int 0, .int 0, .ref m29, .ref m30, .ref m31, .ref m32, .int 0, .ref m34, .ref m35, .ref m36, .ref m37, .int 0, .int 0, .ref m40, .ref m41, .ref m42, .ref m43, .ref m44, .ref m45, .ref m46, .ref m47, .ref m48, .ref m49, .ref m50, .ref m51, .ref m52]))] H := hP
  have hD : va_D A [(o0, .inl (co, 1, .inr (.inl (vp_updL (fun _ => 0) (0 : Int32).toNatClampNeg ((-9)))))), (y0, .inr (10, [.int 0, .ref m1, .int 0, .int 0, .int 0, .int 0, .int 1, .int 0, .ref m8, .int 0, .int 0, .ref m11, .ref m12, .ref m13, .ref m14, .ref m15, .ref m16, .ref m17, .ref m18, .ref m19, .ref m20, .ref m21, .int 0, .int 0, .int 0, .ref m25, .ref m26, .int 0, .int 0, .ref m29, .ref m30, .ref m31, .ref m32, .int 0, .ref m34, .ref m35, .ref m36, .ref m37, .int 0, .int 0, .ref m40, .ref m41, .ref m42, .ref m43, .ref m44, .ref m45, .ref m46, .ref m47, .ref m48, .ref m49, .ref m50, .ref m51, .ref m52]))] := hD
  have hK : va_K (dC, dI) vwCl [(crf, .int), (co, .long), (co, .long)] s := hK
  refine W.widen (k := 6559) (n := 850824) (by omega) (by omega) ?_
  obtain rfl : r102 = (-9) := hw
  refine lv_istore (lv' := [(6, .int (-9)), (5, .int 0), (4, .int 0), (3, .ref o0), (2, .ref y0), (1, .ref x0), (0, .ref b)]) hx hb dL_law_304 hl (by decide) rfl (fun ls hl => ?_)
  refine lv_aload_n hx hb dL_law_306 rfl (lv_at hl 4 rfl) ?_
  have hPc := hP.sub (ws' := [(y0, .inr (10, [.int 0, .ref m1, .int 0, .int 0, .int 0, .int 0, .int 1, .int 0, .ref m8, .int 0, .int 0, .ref m11, .ref m12, .ref m13, .ref m14, .ref m15, .ref m16, .ref m17, .ref m18, .ref m19, .ref m20, .ref m21, .int 0, .int 0, .int 0, .ref m25, .ref m26, .int 0, .int 0, .ref m29, .ref m30, .ref m31, .ref m32, .int 0, .ref m34, .ref m35, .ref m36, .ref m37, .int 0, .int 0, .ref m40, .ref m41, .ref m42, .ref m43, .ref m44, .ref m45, .ref m46, .ref m47, .ref m48, .ref m49, .ref m50, .ref m51, .ref m52]))]) [1] rfl
  have hDc := hD.sub (ws' := [(y0, .inr (10, [.int 0, .ref m1, .int 0, .int 0, .int 0, .int 0, .int 1, .int 0, .ref m8, .int 0, .int 0, .ref m11, .ref m12, .ref m13, .ref m14, .ref m15, .ref m16, .ref m17, .ref m18, .ref m19, .ref m20, .ref m21, .int 0, .int 0, .int 0, .ref m25, .ref m26, .int 0, .int 0, .ref m29, .ref m30, .ref m31, .ref m32, .int 0, .ref m34, .ref m35, .ref m36, .ref m37, .int 0, .int 0, .ref m40, .ref m41, .ref m42, .ref m43, .ref m44, .ref m45, .ref m46, .ref m47, .ref m48, .ref m49, .ref m50, .ref m51, .ref m52]))]) [1] (by decide) rfl
  have hKc := hK.sub (tys' := []) [] rfl
  have hFc := va_free (wc := [(y0, .inr (10, [.int 0, .ref m1, .int 0, .int 0, .int 0, .int 0, .int 1, .int 0, .ref m8, .int 0, .int 0, .ref m11, .ref m12, .ref m13, .ref m14, .ref m15, .ref m16, .ref m17, .ref m18, .ref m19, .ref m20, .ref m21, .int 0, .int 0, .int 0, .ref m25, .ref m26, .int 0, .int 0, .ref m29, .ref m30, .ref m31, .ref m32, .int 0, .ref m34, .ref m35, .ref m36, .ref m37, .int 0, .int 0, .ref m40, .ref m41, .ref m42, .ref m43, .ref m44, .ref m45, .ref m46, .ref m47, .ref m48, .ref m49, .ref m50, .ref m51, .ref m52]))]) hD hS hA [1] rfl
  refine va_calli (va_runV (As := []) (rest := []) ⟨hx, hb, hml, hown, hts⟩ (m_thrown l dC dI H.size (y0) (0) (m1) (0) (0) (0) (0) (1) (0) (m8) (0) (0) (m11) (m12) (m13) (m14) (m15) (m16) (m17) (m18) (m19) (m20) (m21) (0) (0) (0) (m25) (m26) (0) (0) (m29) (m30) (m31) (m32) (0) (m34) (m35) (m36) (m37) (0) (0) (m40) (m41) (m42) (m43) (m44) (m45) (m46) (m47) (m48) (m49) (m50) (m51) (m52)) (cwV 0 hts (gV_G k1327 k1328 k1329 k13 k1330) rfl rfl rfl (by decide +kernel) ⟨Nat.le_of_ble_eq_true rfl, Nat.le_of_ble_eq_true rfl⟩) ⟨fun a U g mk q => by obtain ⟨q0, q1, qP, qK, qD⟩ := q; exact ⟨q0, q1, qP, va_K.moved (u := U) (U := U.calling g mk a) (Vm.Alike.refl U.vm) qK, qD⟩, va_recv hKc hPc (ci := 10) (q0 := 0) rfl rfl, fun U hU hW => ⟨rfl, by rw [hU], by rw [hU]; exact hPc, va_K.moved hW.alike hKc, hDc.weaken (fun _ _ _ _ => trivial)⟩⟩ rfl rfl hl.1 rfl (lv_room (Nat.le_of_ble_eq_true rfl)) dL_law_307 ⟨Nat.le_of_ble_eq_true rfl, Nat.le_of_ble_eq_true rfl⟩) hS (fun q _ h => hFc q h) hFc (fun r103 u t H1 locs ht hvm hw hB hz1 hk1 hS => ?_)
  obtain ⟨hP1, hK1, hD1⟩ := hB
  rw [ht] at hP1
  have hK1 := va_K.moved hvm.symm hK1
  try dsimp only at hw
  obtain ⟨hP, hD⟩ := va_join (wr := [(o0, .inl (co, 1, .inr (.inl (vp_updL (fun _ => 0) (0 : Int32).toNatClampNeg ((-9))))))]) (w1 := []) hP hD [1] [0] rfl rfl (by decide) (by decide) hk1 hFc hP1 hD1
  have hK := hK.app hK1
  generalize H1 = H at hP hS ⊢
  have hP : va_P (dC, dI) vwCl [(o0, .inl (co, 1, .inr (.inl (vp_updL (fun _ => 0) (0 : Int32).toNatClampNeg ((-9))))))] H := hP
  have hD : va_D A [(o0, .inl (co, 1, .inr (.inl (vp_updL (fun _ => 0) (0 : Int32).toNatClampNeg ((-9))))))] := hD
  have hK : va_K (dC, dI) vwCl [(crf, .int), (co, .long), (co, .long)] s := hK
  refine W.widen (k := 6559) (n := 850824) (by omega) (by omega) ?_
  obtain rfl : r103 = 0 := hw
  refine lv_iload hx hb dL_law_310 (lv_at hl 1 rfl) ?_
  refine lv_icmp_eq (tgt := 317) hx hb dL_law_312 (by decide) (fun _ => ?_) (fun c9 => absurd (by decide +kernel) c9)
  refine lv_iload hx hb dL_law_317 (lv_at hl 1 rfl) ?_
  refine lv_if_ne (tgt := 334) hx hb dL_law_319 (by decide) (fun c9 => absurd (by decide +kernel) c9) (fun _ => ?_)
  refine lv_aload_n hx hb dL_law_322 rfl (lv_at hl 3 rfl) ?_
  refine lv_iconst (v := 0) hx hb dL_law_323 (by decide) ?_
  refine va_lald hx hb hK hP 0 1 rfl rfl (by unfold vp_in; decide +kernel) dL_law_324 ?_
  refine lv_topl (fun y9 ey9 => ?_)
  obtain rfl : y9 = (-9) := ey9.trans pk_uLs
  refine lv_iload hx hb dL_law_325 (lv_at hl 0 rfl) ?_
  refine lv_i2l (v := (-9)) hx hb dL_law_327 (by decide +kernel) ?_
  refine x_lcmp0 hx hb dL_law_328 ?_
  refine lv_if_eq (tgt := 334) hx hb dL_law_329 (by decide) (fun _ => ?_) (fun c9 => absurd (by decide +kernel) c9)
  refine lv_goto (tgt := 2301) hx hb dL_law_334 (by decide) ?_
  refine W.widen (k := 6567) (n := 850872) (by omega) (by omega) ?_
  exact hend H locs ls hS (lv_sub hl [2, 6] rfl)

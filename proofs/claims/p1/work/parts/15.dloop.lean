set_option maxHeartbeats 4000000 in
set_option maxRecDepth 100000 in
theorem dm_loop {p : Program} {l : Launch} {e : Env} {s : State} {m : MethodId} {args : Array Value} {below : List Frame} {meth : Method} {c : Code} {Q : State → Prop} {dC : Nat → ClassId} {dI : Nat → Nat → Nat} {A : Nat → Prop} {H0 : Heap} {R : Room} {cells slots : Nat} {h0 : Nat} {m1 : Nat} {m8 : Nat} {m11 : Nat} {m12 : Nat} {m13 : Nat} {m14 : Nat} {m15 : Nat} {m16 : Nat} {m17 : Nat} {m18 : Nat} {m19 : Nat} {m20 : Nat} {m21 : Nat} {m25 : Nat} {m26 : Nat} {m29 : Nat} {m30 : Nat} {m31 : Nat} {m32 : Nat} {m34 : Nat} {m35 : Nat} {m36 : Nat} {m37 : Nat} {m40 : Nat} {m41 : Nat} {m42 : Nat} {m43 : Nat} {m44 : Nat} {m45 : Nat} {m46 : Nat} {m47 : Nat} {m48 : Nat} {m49 : Nat} {m50 : Nat} {m51 : Nat} {m52 : Nat} {crf : ClassId} {cnd : ClassId} {ccn : ClassId} {cct : ClassId} {g47 : Nat → Option Nat} {r47 : Nat} (hx : p.tables.exec = Jvm.exec) (hb : c.code = cX10_derived) (hown : s.vm.findClass RX10 = some m.cls) (hts : ∀ w ∈ wsG, w.before args s = true) (hA : ∀ q : Nat, H0.size ≤ q → A q) (hK : va_K (dC, dI) vwCl [(crf, .int), (cnd, .int), (ccn, .array .int), (cct, .int), (crf, .int), (cnd, .int)] s) (h47 : g47 0 = some r47) {n0 : Nat} (hn : n0 ≤ 60)
    (hexit : ∀ (f : Nat → Int32) (H : Heap) (locs : List Loc) (ls : Array Slot), f (nI n0 : Int32).toNatClampNeg = (if nI 0 = nI n0 then 1 else 0) → va_P (dC, dI) vwCl [(m43, .inl (ccn, 1900, .inr (.inr (.inr (.inr (g47)))))), (r47, .inl (cct, 62, .inl (f))), (m1, .inl (crf, 3, .inl (fun _ => 0))), (h0, .inr (10, [.int 0, .ref m1, .int 0, .int 0, .int 0, .int (-1), .int 0, .int 0, .ref m8, .int 0, .int 0, .ref m11, .ref m12, .ref m13, .ref m14, .ref m15, .ref m16, .ref m17, .ref m18, .ref m19, .ref m20, .ref m21, .int 0, .int 0, .int 0, .ref m25, .ref m26, .int 0, .int 0, .ref m29, .ref m30, .ref m31, .ref m32, .int 0, .ref m34, .ref m35, .ref m36, .ref m37, .int 0, .int 0, .ref m40, .ref m41, .ref m42, .ref m43, .ref m44, .ref m45, .ref m46, .ref m47, .ref m48, .ref m49, .ref m50, .ref m51, .ref m52])), (m21, .inl (cnd, 70, .inl (fun _ => 0)))] H → va_D A [(m43, .inl (ccn, 1900, .inr (.inr (.inr (.inr (g47)))))), (r47, .inl (cct, 62, .inl (f))), (m1, .inl (crf, 3, .inl (fun _ => 0))), (h0, .inr (10, [.int 0, .ref m1, .int 0, .int 0, .int 0, .int (-1), .int 0, .int 0, .ref m8, .int 0, .int 0, .ref m11, .ref m12, .ref m13, .ref m14, .ref m15, .ref m16, .ref m17, .ref m18, .ref m19, .ref m20, .ref m21, .int 0, .int 0, .int 0, .ref m25, .ref m26, .int 0, .int 0, .ref m29, .ref m30, .ref m31, .ref m32, .int 0, .ref m34, .ref m35, .ref m36, .ref m37, .int 0, .int 0, .ref m40, .ref m41, .ref m42, .ref m43, .ref m44, .ref m45, .ref m46, .ref m47, .ref m48, .ref m49, .ref m50, .ref m51, .ref m52])), (m21, .inl (cnd, 70, .inl (fun _ => 0)))] → va_S A H0 H locs → lv_has ls 6 [(0, .ref h0), (1, .int (nI n0))] → W p l e R s m args below meth c H locs cells slots Q (F0 m 186 ls [])) :
    ∀ (n j : Nat) (f : Nat → Int32) (H : Heap) (locs : List Loc) (ls : Array Slot), 1 ≤ j → j ≤ n0 + 1 → n0 + 1 ≤ j + n → f 0 = 1 → (∀ i, 1 ≤ i → i < j → f i = 0) → va_P (dC, dI) vwCl [(m43, .inl (ccn, 1900, .inr (.inr (.inr (.inr (g47)))))), (r47, .inl (cct, 62, .inl (f))), (m1, .inl (crf, 3, .inl (fun _ => 0))), (h0, .inr (10, [.int 0, .ref m1, .int 0, .int 0, .int 0, .int (-1), .int 0, .int 0, .ref m8, .int 0, .int 0, .ref m11, .ref m12, .ref m13, .ref m14, .ref m15, .ref m16, .ref m17, .ref m18, .ref m19, .ref m20, .ref m21, .int 0, .int 0, .int 0, .ref m25, .ref m26, .int 0, .int 0, .ref m29, .ref m30, .ref m31, .ref m32, .int 0, .ref m34, .ref m35, .ref m36, .ref m37, .int 0, .int 0, .ref m40, .ref m41, .ref m42, .ref m43, .ref m44, .ref m45, .ref m46, .ref m47, .ref m48, .ref m49, .ref m50, .ref m51, .ref m52])), (m21, .inl (cnd, 70, .inl (fun _ => 0)))] H → va_D A [(m43, .inl (ccn, 1900, .inr (.inr (.inr (.inr (g47)))))), (r47, .inl (cct, 62, .inl (f))), (m1, .inl (crf, 3, .inl (fun _ => 0))), (h0, .inr (10, [.int 0, .ref m1, .int 0, .int 0, .int 0, .int (-1), .int 0, .int 0, .ref m8, .int 0, .int 0, .ref m11, .ref m12, .ref m13, .ref m14, .ref m15, .ref m16, .ref m17, .ref m18, .ref m19, .ref m20, .ref m21, .int 0, .int 0, .int 0, .ref m25, .ref m26, .int 0, .int 0, .ref m29, .ref m30, .ref m31, .ref m32, .int 0, .ref m34, .ref m35, .ref m36, .ref m37, .int 0, .int 0, .ref m40, .ref m41, .ref m42, .ref m43, .ref m44, .ref m45, .ref m46, .ref m47, .ref m48, .ref m49, .ref m50, .ref m51, .ref m52])), (m21, .inl (cnd, 70, .inl (fun _ => 0)))] → va_S A H0 H locs → lv_has ls 6 [(2, .int (nI j)), (0, .ref h0), (1, .int (nI n0))] → W p l e R s m args below meth c H locs cells slots Q (F0 m 37 ls []) := by
  have hfin : ∀ (j : Nat) (f : Nat → Int32), j = n0 + 1 → f 0 = 1 → (∀ i, 1 ≤ i → i < j → f i = 0) → f (nI n0 : Int32).toNatClampNeg = (if nI 0 = nI n0 then 1 else 0) := by
    intro j f hj h0 h1
    rw [nI_clamp (by omega)]
    by_cases hz : n0 = 0
    · subst hz; rw [if_pos rfl]; exact h0
    · rw [if_neg (fun q => hz ((nI_eq (by omega) (by omega)).mp q).symm)]; exact h1 n0 (by omega) (by omega)
  intro n
  induction n with
  | zero =>
    intro j f H locs ls h1 h2 h3 hf0 hf hP hD hS hl
    refine lv_iload_n hx hb dX10_derived_37 rfl (lv_at hl 0 rfl) ?_
    refine lv_iload_n hx hb dX10_derived_38 rfl (lv_at hl 2 rfl) ?_
    refine lv_icmp_gt (tgt := 186) hx hb dX10_derived_39 (by decide) (fun _ => ?_) (fun c9 => absurd (nI_lt (by omega) (by omega)) c9)
    exact hexit f H locs ls (hfin j f (by omega) hf0 hf) hP hD hS (lv_sub hl [1, 2] rfl)
  | succ n ih =>
    intro j f H locs ls h1 h2 h3 hf0 hf hP hD hS hl
    by_cases hj : j = n0 + 1
    · refine lv_iload_n hx hb dX10_derived_37 rfl (lv_at hl 0 rfl) ?_
      refine lv_iload_n hx hb dX10_derived_38 rfl (lv_at hl 2 rfl) ?_
      refine lv_icmp_gt (tgt := 186) hx hb dX10_derived_39 (by decide) (fun _ => ?_) (fun c9 => absurd (nI_lt (by omega) (by omega)) c9)
      exact hexit f H locs ls (hfin j f (by omega) hf0 hf) hP hD hS (lv_sub hl [1, 2] rfl)
    refine lv_iload_n hx hb dX10_derived_37 rfl (lv_at hl 0 rfl) ?_
    refine lv_iload_n hx hb dX10_derived_38 rfl (lv_at hl 2 rfl) ?_
    refine lv_icmp_gt (tgt := 186) hx hb dX10_derived_39 (by decide) (fun c39_ => absurd c39_ (nI_nlt (by omega) (by omega))) (fun _ => ?_)
    refine lv_iconst (v := 0) hx hb dX10_derived_42 (by decide) ?_
    refine lv_istore_n (lv' := [(3, .int 0), (2, .int (nI j)), (0, .ref h0), (1, .int (nI n0))]) hx hb dX10_derived_43 rfl hl (by decide) rfl (fun ls hl => ?_)
    refine lv_iload_n hx hb dX10_derived_44 rfl (lv_at hl 0 rfl) ?_
    refine lv_aload_n hx hb dX10_derived_45 rfl (lv_at hl 2 rfl) ?_
    refine va_get (D := (dC, dI)) (ci := 10) (v := .int 0) (C := RX10) (T := TX10) (N := 53) hx hb hts inG10 hown hK hP 3 rfl rfl 39 (by decide) (hts _ k1205) (fun _ h9 => h9) rfl dX10_derived_46 ?_
    refine lv_icmp_gt (tgt := 67) hx hb dX10_derived_49 (by decide) (fun c9 => absurd c9 (by decide +kernel)) (fun _ => ?_)
    refine lv_aload_n hx hb dX10_derived_52 rfl (lv_at hl 2 rfl) ?_
    refine va_get (D := (dC, dI)) (ci := 10) (v := .ref m43) (C := RX10) (T := TX10) (N := 53) hx hb hts inG10 hown hK hP 3 rfl rfl 43 (by decide) (hts _ k1209) (fun _ h9 => h9) rfl dX10_derived_53 ?_
    refine lv_iload_n hx hb dX10_derived_56 rfl (lv_at hl 0 rfl) ?_
    refine va_alda (ty := .array .int) (v := .ref r47) rfl hx hb hK hP 0 2 rfl rfl (by unfold vp_in; decide +kernel) (by rw [x_i0, h47]; rfl) dX10_derived_57 ?_
    refine lv_iload_n hx hb dX10_derived_58 rfl (lv_at hl 1 rfl) ?_
    refine lv_iconst (v := 0) hx hb dX10_derived_59 (by decide) ?_
    refine va_iast hx hb hK hP hD hS 1 3 rfl rfl (vp_in_nI (by omega) (by omega)) dX10_derived_60 (fun H locs hP hD hS => ?_)
    have hP : va_P (dC, dI) vwCl [(m43, .inl (ccn, 1900, .inr (.inr (.inr (.inr (g47)))))), (r47, .inl (cct, 62, .inl (upd (f) ((nI j) : Int32).toNatClampNeg (0)))), (m1, .inl (crf, 3, .inl (fun _ => 0))), (h0, .inr (10, [.int 0, .ref m1, .int 0, .int 0, .int 0, .int (-1), .int 0, .int 0, .ref m8, .int 0, .int 0, .ref m11, .ref m12, .ref m13, .ref m14, .ref m15, .ref m16, .ref m17, .ref m18, .ref m19, .ref m20, .ref m21, .int 0, .int 0, .int 0, .ref m25, .ref m26, .int 0, .int 0, .ref m29, .ref m30, .ref m31, .ref m32, .int 0, .ref m34, .ref m35, .ref m36, .ref m37, .int 0, .int 0, .ref m40, .ref m41, .ref m42, .ref m43, .ref m44, .ref m45, .ref m46, .ref m47, .ref m48, .ref m49, .ref m50, .ref m51, .ref m52])), (m21, .inl (cnd, 70, .inl (fun _ => 0)))] H := hP
    have hD : va_D A [(m43, .inl (ccn, 1900, .inr (.inr (.inr (.inr (g47)))))), (r47, .inl (cct, 62, .inl (upd (f) ((nI j) : Int32).toNatClampNeg (0)))), (m1, .inl (crf, 3, .inl (fun _ => 0))), (h0, .inr (10, [.int 0, .ref m1, .int 0, .int 0, .int 0, .int (-1), .int 0, .int 0, .ref m8, .int 0, .int 0, .ref m11, .ref m12, .ref m13, .ref m14, .ref m15, .ref m16, .ref m17, .ref m18, .ref m19, .ref m20, .ref m21, .int 0, .int 0, .int 0, .ref m25, .ref m26, .int 0, .int 0, .ref m29, .ref m30, .ref m31, .ref m32, .int 0, .ref m34, .ref m35, .ref m36, .ref m37, .int 0, .int 0, .ref m40, .ref m41, .ref m42, .ref m43, .ref m44, .ref m45, .ref m46, .ref m47, .ref m48, .ref m49, .ref m50, .ref m51, .ref m52])), (m21, .inl (cnd, 70, .inl (fun _ => 0)))] := hD
    refine lv_iinc (v := 1) (lv' := [(3, .int 1), (2, .int (nI j)), (0, .ref h0), (1, .int (nI n0))]) hx hb dX10_derived_61 hl (k := 0) rfl (by decide +kernel) (by decide) rfl (fun ls hl => ?_)
    refine lv_goto (tgt := 44) hx hb dX10_derived_64 (by decide) ?_
    refine lv_iload_n hx hb dX10_derived_44 rfl (lv_at hl 0 rfl) ?_
    refine lv_aload_n hx hb dX10_derived_45 rfl (lv_at hl 2 rfl) ?_
    refine va_get (D := (dC, dI)) (ci := 10) (v := .int 0) (C := RX10) (T := TX10) (N := 53) hx hb hts inG10 hown hK hP 3 rfl rfl 39 (by decide) (hts _ k1205) (fun _ h9 => h9) rfl dX10_derived_46 ?_
    refine lv_icmp_gt (tgt := 67) hx hb dX10_derived_49 (by decide) (fun _ => ?_) (fun c9 => absurd (by decide +kernel) c9)
    refine lv_aload_n hx hb dX10_derived_67 rfl (lv_at hl 2 rfl) ?_
    refine va_get (D := (dC, dI)) (ci := 10) (v := .ref m43) (C := RX10) (T := TX10) (N := 53) hx hb hts inG10 hown hK hP 3 rfl rfl 43 (by decide) (hts _ k1209) (fun _ h9 => h9) rfl dX10_derived_68 ?_
    refine lv_aload_n hx hb dX10_derived_71 rfl (lv_at hl 2 rfl) ?_
    refine va_get (D := (dC, dI)) (ci := 10) (v := .int 0) (C := RX10) (T := TX10) (N := 53) hx hb hts inG10 hown hK hP 3 rfl rfl 39 (by decide) (hts _ k1205) (fun _ h9 => h9) rfl dX10_derived_72 ?_
    refine va_alda (ty := .array .int) (v := .ref r47) rfl hx hb hK hP 0 2 rfl rfl (by unfold vp_in; decide +kernel) (by rw [x_i0, h47]; rfl) dX10_derived_75 ?_
    refine lv_iload_n hx hb dX10_derived_76 rfl (lv_at hl 1 rfl) ?_
    refine lv_iload_n hx hb dX10_derived_77 rfl (lv_at hl 1 rfl) ?_
    refine lv_if_ne (tgt := 85) hx hb dX10_derived_78 (by decide) (fun _ => ?_) (fun c78_ => absurd c78_ (nI_ne0 (by omega) (by omega)))
    refine lv_iconst (v := 0) hx hb dX10_derived_85 (by decide) ?_
    refine va_iast hx hb hK hP hD hS 1 3 rfl rfl (vp_in_nI (by omega) (by omega)) dX10_derived_86 (fun H locs hP hD hS => ?_)
    have hP : va_P (dC, dI) vwCl [(m43, .inl (ccn, 1900, .inr (.inr (.inr (.inr (g47)))))), (r47, .inl (cct, 62, .inl (upd (upd (f) ((nI j) : Int32).toNatClampNeg (0)) ((nI j) : Int32).toNatClampNeg (0)))), (m1, .inl (crf, 3, .inl (fun _ => 0))), (h0, .inr (10, [.int 0, .ref m1, .int 0, .int 0, .int 0, .int (-1), .int 0, .int 0, .ref m8, .int 0, .int 0, .ref m11, .ref m12, .ref m13, .ref m14, .ref m15, .ref m16, .ref m17, .ref m18, .ref m19, .ref m20, .ref m21, .int 0, .int 0, .int 0, .ref m25, .ref m26, .int 0, .int 0, .ref m29, .ref m30, .ref m31, .ref m32, .int 0, .ref m34, .ref m35, .ref m36, .ref m37, .int 0, .int 0, .ref m40, .ref m41, .ref m42, .ref m43, .ref m44, .ref m45, .ref m46, .ref m47, .ref m48, .ref m49, .ref m50, .ref m51, .ref m52])), (m21, .inl (cnd, 70, .inl (fun _ => 0)))] H := hP
    have hD : va_D A [(m43, .inl (ccn, 1900, .inr (.inr (.inr (.inr (g47)))))), (r47, .inl (cct, 62, .inl (upd (upd (f) ((nI j) : Int32).toNatClampNeg (0)) ((nI j) : Int32).toNatClampNeg (0)))), (m1, .inl (crf, 3, .inl (fun _ => 0))), (h0, .inr (10, [.int 0, .ref m1, .int 0, .int 0, .int 0, .int (-1), .int 0, .int 0, .ref m8, .int 0, .int 0, .ref m11, .ref m12, .ref m13, .ref m14, .ref m15, .ref m16, .ref m17, .ref m18, .ref m19, .ref m20, .ref m21, .int 0, .int 0, .int 0, .ref m25, .ref m26, .int 0, .int 0, .ref m29, .ref m30, .ref m31, .ref m32, .int 0, .ref m34, .ref m35, .ref m36, .ref m37, .int 0, .int 0, .ref m40, .ref m41, .ref m42, .ref m43, .ref m44, .ref m45, .ref m46, .ref m47, .ref m48, .ref m49, .ref m50, .ref m51, .ref m52])), (m21, .inl (cnd, 70, .inl (fun _ => 0)))] := hD
    refine lv_iconst (v := 1) hx hb dX10_derived_87 (by decide) ?_
    refine lv_istore_n (lv' := [(3, .int 1), (2, .int (nI j)), (0, .ref h0), (1, .int (nI n0))]) hx hb dX10_derived_88 rfl hl (by decide) rfl (fun ls hl => ?_)
    refine lv_iload_n hx hb dX10_derived_89 rfl (lv_at hl 0 rfl) ?_
    refine lv_if_eq (tgt := 180) hx hb dX10_derived_90 (by decide) (fun c9 => absurd c9 (by decide +kernel)) (fun _ => ?_)
    refine lv_iconst (v := 0) hx hb dX10_derived_93 (by decide) ?_
    refine lv_istore_n (lv' := [(3, .int 0), (2, .int (nI j)), (0, .ref h0), (1, .int (nI n0))]) hx hb dX10_derived_94 rfl hl (by decide) rfl (fun ls hl => ?_)
    refine lv_aload_n hx hb dX10_derived_95 rfl (lv_at hl 2 rfl) ?_
    refine va_get (D := (dC, dI)) (ci := 10) (v := .int 0) (C := RX10) (T := TX10) (N := 53) hx hb hts inG10 hown hK hP 3 rfl rfl 39 (by decide) (hts _ k1205) (fun _ h9 => h9) rfl dX10_derived_96 ?_
    refine lv_iconst (v := 1) hx hb dX10_derived_99 (by decide) ?_
    refine lv_isub hx hb dX10_derived_100 ?_
    refine lv_topi (fun x9 ex9 => ?_)
    obtain rfl : x9 = (-1) := ex9.trans (by decide +kernel)
    refine lv_istore (lv' := [(4, .int (-1)), (3, .int 0), (2, .int (nI j)), (0, .ref h0), (1, .int (nI n0))]) hx hb dX10_derived_101 hl (by decide) rfl (fun ls hl => ?_)
    refine lv_iload hx hb dX10_derived_103 (lv_at hl 0 rfl) ?_
    refine lv_if_lt (tgt := 177) hx hb dX10_derived_105 (by decide) (fun _ => ?_) (fun c9 => absurd (by decide +kernel) c9)
    refine lv_goto (tgt := 89) hx hb dX10_derived_177 (by decide) ?_
    refine lv_iload_n hx hb dX10_derived_89 rfl (lv_at hl 1 rfl) ?_
    refine lv_if_eq (tgt := 180) hx hb dX10_derived_90 (by decide) (fun _ => ?_) (fun c9 => absurd (by decide +kernel) c9)
    obtain ⟨k2, e_k2⟩ : ∃ y : Int32, y = nI j + 1 := ⟨_, rfl⟩
    refine lv_iinc (v := k2) (lv' := [(2, .int k2), (4, .int (-1)), (3, .int 0), (0, .ref h0), (1, .int (nI n0))]) hx hb dX10_derived_180 hl (k := 2) rfl (by rw [e_k2]; rfl) (by decide) rfl (fun ls hl => ?_)
    refine lv_goto (tgt := 37) hx hb dX10_derived_183 (by decide) ?_
    have hjlt : j < 2 ^ 31 := by omega
    have hc : (nI j : Int32).toNatClampNeg = j := nI_clamp hjlt
    have h0j : (0 : Nat) ≠ j := by omega
    have g0 : (upd (upd (f) ((nI j) : Int32).toNatClampNeg (0)) ((nI j) : Int32).toNatClampNeg (0)) 0 = 1 := by rw [hc, pk_un h0j, pk_un h0j]; exact hf0
    have g1 : ∀ i, 1 ≤ i → i < j + 1 → (upd (upd (f) ((nI j) : Int32).toNatClampNeg (0)) ((nI j) : Int32).toNatClampNeg (0)) i = 0 := by
      intro i h5 h6
      rw [hc]
      by_cases e9 : i = j
      · rw [e9, pk_us]
      · rw [pk_un e9, pk_un e9]; exact hf i h5 (by omega)
    generalize hff : (upd (upd (f) ((nI j) : Int32).toNatClampNeg (0)) ((nI j) : Int32).toNatClampNeg (0)) = f2 at hP hD g0 g1
    have ek : k2 = nI (j + 1) := e_k2.trans (nI_1 j)
    rw [ek] at hl
    have hl9 := lv_sub hl (l' := [(2, .int (nI (j + 1))), (0, .ref h0), (1, .int (nI n0))]) [0, 3, 4] rfl
    have b1 : 1 ≤ j + 1 := by omega
    have b2 : j + 1 ≤ n0 + 1 := by omega
    have b3 : n0 + 1 ≤ j + 1 + n := by omega
    exact ih (j + 1) f2 H locs ls b1 b2 b3 g0 g1 hP hD hS hl9

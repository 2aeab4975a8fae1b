set_option maxRecDepth 100000 in
theorem k21 : (Cond.classLink "PageSkeletonLaw" (8 : Nat) "PageSkeleton") ∈ wsG := wsG_a1 21 rfl rfl
set_option maxRecDepth 100000 in
theorem k22 : (Cond.instantiable "PageSkeleton" (15 : Nat)) ∈ wsG := wsG_a1 22 rfl rfl
set_option maxRecDepth 100000 in
theorem k23 : (Cond.methodLink "PageSkeletonLaw" (110 : Nat) ({ cls := "PageSkeleton", name := "<init>", desc := "()V" } : MethodName)) ∈ wsG := wsG_a1 23 rfl rfl
set_option maxRecDepth 100000 in
theorem k24 : (Cond.instanceMethod ({ cls := "PageSkeleton", name := "<init>", desc := "()V" } : MethodName)) ∈ wsG := wsG_a1 24 rfl rfl
set_option maxRecDepth 100000 in
theorem k25 : (Cond.code ({ cls := "PageSkeleton", name := "<init>", desc := "()V" } : MethodName) prog_1_method_1_code (2 : Nat) (Option.none : Option Jvm.ClassFile.FieldType)) ∈ wsG := wsG_a1 25 rfl rfl
set_option maxRecDepth 100000 in
theorem k1157 : (Cond.classLink "PageSkeletonLaw" (111 : Nat) "PageSkeletonModel") ∈ wsG := wsG_a5 197 rfl rfl
set_option maxRecDepth 100000 in
theorem k1158 : (Cond.instantiable "PageSkeletonModel" (53 : Nat)) ∈ wsG := wsG_a5 198 rfl rfl
set_option maxRecDepth 100000 in
theorem k1159 : (Cond.methodLink "PageSkeletonLaw" (113 : Nat) ({ cls := "PageSkeletonModel", name := "<init>", desc := "()V" } : MethodName)) ∈ wsG := wsG_a5 199 rfl rfl
set_option maxRecDepth 100000 in
theorem k1160 : (Cond.instanceMethod ({ cls := "PageSkeletonModel", name := "<init>", desc := "()V" } : MethodName)) ∈ wsG := wsG_a5 200 rfl rfl
set_option maxRecDepth 100000 in
theorem k1161 : (Cond.code ({ cls := "PageSkeletonModel", name := "<init>", desc := "()V" } : MethodName) prog_12_method_1_code (1 : Nat) (Option.none : Option Jvm.ClassFile.FieldType)) ∈ wsG := wsG_a5 201 rfl rfl
theorem dL_law_0 : decode cL_law 0 = .ok (.new 8, 3) := by decide +kernel
theorem dL_law_3 : decode cL_law 3 = .ok (.dup, 1) := by decide +kernel
theorem dL_law_4 : decode cL_law 4 = .ok (.invokespecial 110, 3) := by decide +kernel
theorem dL_law_7 : decode cL_law 7 = .ok (.astore_n 1, 1) := by decide +kernel
theorem dL_law_8 : decode cL_law 8 = .ok (.new 111, 3) := by decide +kernel
theorem dL_law_11 : decode cL_law 11 = .ok (.dup, 1) := by decide +kernel
theorem dL_law_12 : decode cL_law 12 = .ok (.invokespecial 113, 3) := by decide +kernel
theorem dL_law_15 : decode cL_law 15 = .ok (.astore_n 2, 1) := by decide +kernel
theorem dL_law_16 : decode cL_law 16 = .ok (.iconst 1, 1) := by decide +kernel
theorem dL_law_17 : decode cL_law 17 = .ok (.newarray .long, 2) := by decide +kernel
theorem dL_law_19 : decode cL_law 19 = .ok (.astore_n 3, 1) := by decide +kernel
theorem dL_law_20 : decode cL_law 20 = .ok (.iconst 0, 1) := by decide +kernel
theorem dL_law_21 : decode cL_law 21 = .ok (.istore 4, 2) := by decide +kernel
theorem dL_law_23 : decode cL_law 23 = .ok (.iload 4, 2) := by decide +kernel
theorem dL_law_25 : decode cL_law 25 = .ok (.aload_n 0, 1) := by decide +kernel
theorem dL_law_26 : decode cL_law 26 = .ok (.arraylength, 1) := by decide +kernel
theorem dL_law_27 : decode cL_law 27 = .ok (.bipush 6, 2) := by decide +kernel
theorem dL_law_29 : decode cL_law 29 = .ok (.isub, 1) := by decide +kernel
theorem dL_law_30 : decode cL_law 30 = .ok (.if_icmp .gt 1444, 3) := by decide +kernel
theorem dL_law_33 : decode cL_law 33 = .ok (.aload_n 0, 1) := by decide +kernel
theorem dL_law_34 : decode cL_law 34 = .ok (.iload 4, 2) := by decide +kernel
theorem dL_law_36 : decode cL_law 36 = .ok (.iaload, 1) := by decide +kernel
theorem dL_law_37 : decode cL_law 37 = .ok (.bipush 63, 2) := by decide +kernel
theorem dL_law_39 : decode cL_law 39 = .ok (.iand, 1) := by decide +kernel
theorem dL_law_40 : decode cL_law 40 = .ok (.tableswitch 1428 0 37 #[168, 241, 269, 282, 310, 323, 351, 364, 377, 405, 445, 485, 525, 565, 617, 645, 673, 701, 741, 781, 833, 873, 901, 941, 981, 1009, 1037, 1050, 1078, 1118, 1174, 1202, 1242, 1282, 1334, 1362, 1390, 1403], 168) := by decide +kernel
theorem dL_law_1468 : decode cL_law 1468 = .ok (.iinc 4 6, 3) := by decide +kernel
theorem dL_law_1471 : decode cL_law 1471 = .ok (.goto (-1448), 3) := by decide +kernel
theorem dL_law_1474 : decode cL_law 1474 = .ok (.iconst 1, 1) := by decide +kernel
theorem dL_law_1475 : decode cL_law 1475 = .ok (.ireturn, 1) := by decide +kernel
/-! the law: its entry, its loop, its end -/
theorem ka_arr {s : State} {A : Array Value} {ty : FieldType} (h : (Cond.arrayClass ty).before A s = true) : ∃ cA : ClassId, ArrOfT s cA ty ∧ s.vm.findClass ("[" ++ ty.toString) = some cA := by
  obtain ⟨c, k, comp, h1, h2, h3⟩ := Cond.arrayClass_spec h
  exact ⟨c, fun n z => ⟨fun k h => (by cases h), k, h2, comp, h3⟩, h1⟩
theorem ka_arr2 {s : State} {A : Array Value} {t : FieldType} (h : (Cond.arrayOver (.array t)).before A s = true) : ∃ cA : ClassId, ArrOfT s cA (.array t) ∧ s.vm.findClass ("[" ++ (FieldType.array t).toString) = some cA := by
  obtain ⟨comp, c, k, h1, h2, h3, h4⟩ := Cond.arrayOver_specA h
  exact ⟨c, fun n z => ⟨fun k h => (by cases h), k, h2, comp, h3⟩, h4⟩
theorem ka_obj {s : State} {A : Array Value} {C : String} (h : (Cond.arrayOver (.object C)).before A s = true) : ∃ cA : ClassId, ArrOfT s cA (.object C) ∧ va_RA s cA (.object C) := by
  obtain ⟨comp, c, k, h1, h2, h3, h4, h5⟩ := Cond.arrayOver_spec h
  exact ⟨c, fun n z => ⟨fun k h => (by cases h), k, h3, comp, h4⟩, k, comp, h3, h4, h1, h5⟩
theorem ka_cons {s : State} {tys : List (ClassId × FieldType)} {q : ClassId × FieldType} (h : ArrOfT s q.1 q.2 ∧ va_RA s q.1 q.2) (hr : ∀ (k : Nat) (x : ClassId × FieldType), tys[k]? = some x → ArrOfT s x.1 x.2 ∧ va_RA s x.1 x.2) : ∀ (k : Nat) (x : ClassId × FieldType), (q :: tys)[k]? = some x → ArrOfT s x.1 x.2 ∧ va_RA s x.1 x.2
  | 0, x, e => by cases Option.some.inj e; exact h
  | k + 1, x, e => hr k x e
theorem ka_nil {s : State} : ∀ (k : Nat) (x : ClassId × FieldType), ([] : List (ClassId × FieldType))[k]? = some x → ArrOfT s x.1 x.2 ∧ va_RA s x.1 x.2 := fun k x e => by simp at e
section LZ
variable {p : Program} {l : Launch} {e : Env} {R : Room} {s : State} {m : MethodId} {args : Array Value} {below : List Frame} {meth : Method} {c : Code} {H : Heap} {locs : List Loc} {cells slots : Nat} {Q : State → Prop}
variable {cc : ByteArray} {pc : Nat} {ls : Array Slot} {rest : List Value} {D : va_G} {cl : List vw_C} {A : Nat → Prop} {tys : List (ClassId × FieldType)} {H0 : Heap}
/-- a new object, at the heap's end -/
theorem lz_obj (hexec : p.tables.exec = Jvm.exec) (hb : c.code = cc) {own C : String} {T : u_T} {N ci index : Nat} {Ts : List Cond} (hts : ∀ w ∈ Ts, w.before args s = true) (hin : ∀ w ∈ u_ws C T N, w ∈ Ts) (ty : Nat → FieldType) (hty : ∀ k, k < N → parseFieldDescriptor (T k).2.2.1 = some (ty k)) (hown : s.vm.findClass own = some m.cls) (hcl : (Cond.classLink own index C).before args s = true) (hinst : (Cond.instantiable C N).before args s = true) (hini : (Cond.initialized C).before args s = true)
    (hKn : u_Kn s C T N (D.1 ci) (D.2 ci)) (hS : va_S A H0 H locs) (hc : cl[ci]? = some (C, T, N)) {fs : List Value} (hfs : ∀ j, j < N → defaultValue (ty j) = vp_V fs j) (hcells : cells + 1 ≤ R.cells) (hslots : slots + N ≤ R.slots) (hdg : decode cc pc = .ok (.new index, 3)) {a : Nat} (hH : H.size = a)
    (kk : ∀ H1 : Heap, H1.size = a + 1 → (∀ q : Nat, q < H.size → H1[q]? = H[q]?) → va_P D cl (fl a 1 (fun _ => .inr (ci, fs))) H1 → va_S A H0 H1 locs → W p l e R s m args below meth c H1 locs (cells + 1) (slots + N) Q (F0 m (pc + 3) ls (.ref a :: rest))) : W p l e R s m args below meth c H locs cells slots Q (F0 m pc ls rest) := by
  refine W.newcK hexec hb hown hcl hinst hini rfl hdg hcells hslots hKn.2.1 rfl fun H1 kC hkC e1 z1 o1 => ?_
  have k9 := kk H1 (by (first | ((try clear k9); (try clear o1); (try clear e1); (try clear hkC); (try clear kC); (try clear kk); (try clear hdg); (try clear hslots); (try clear hcells); (try clear hfs); (try clear hc); (try clear hini); (try clear hinst); (try clear hcl); (try clear hty); (try clear hexec); omega) | omega)) o1 (fl_P fun k hk => ?_) ⟨Nat.le_trans hS.1 (by (first | ((try clear hk); (try clear k); (try clear k9); (try clear o1); (try clear e1); (try clear hkC); (try clear kC); (try clear kk); (try clear hdg); (try clear hslots); (try clear hcells); (try clear hfs); (try clear hc); (try clear hini); (try clear hinst); (try clear hcl); (try clear hty); (try clear hexec); omega) | omega)), fun x h1 h2 => (o1 x (Nat.lt_of_lt_of_le h1 hS.1)).trans (hS.2.1 x h1 h2), hS.2.2⟩
  · rw [← hH] at k9
    exact k9
  · obtain rfl : k = 0 := by (first | ((try clear k9); (try clear o1); (try clear z1); (try clear e1); (try clear hkC); (try clear kC); (try clear kk); (try clear hH); (try clear hdg); (try clear hslots); (try clear hcells); (try clear hfs); (try clear hc); (try clear hini); (try clear hinst); (try clear hcl); (try clear hty); (try clear hexec); omega) | omega)
    rw [hH] at e1
    exact ⟨_, hc, (u_born ty hts hin hKn hkC e1 hty).to hfs⟩
end LZ
theorem lx_n1 : ∀ q ∈ xNl, Cond.methodLinkNest q.1 q.2.1 q.2.2.1 q.2.2.2 ∈ lw_tbl := by decide +kernel
theorem lx_m1 : ∀ q ∈ xMl, Cond.methodLinkNest q.1 q.2.1 q.2.2.1 q.2.2.2 ∈ lw_tbl := by decide +kernel
theorem lx_N {s : State} {b : Nat} (htsT : ∀ w ∈ lw_tbl, w.before #[Value.ref b] s = true) : xN s := ⟨fun q hq => va_Nw.of rfl (htsT _ (lx_n1 q hq)), ⟨htsT (.arrayClass .int) (by decide +kernel), htsT (.arrayOver (.array .int)) (by decide +kernel), htsT (.arrayOver (.array (.array .int))) (by decide +kernel)⟩, htsT (.arrayOver (.object "PageSkeleton$Leaf")) (by decide +kernel), htsT (.arrayOver (.object "PageSkeleton$Row")) (by decide +kernel)⟩
theorem lx_M {s : State} {b : Nat} (htsT : ∀ w ∈ lw_tbl, w.before #[Value.ref b] s = true) : xM s := fun q hq => va_Nw.of rfl (htsT _ (lx_m1 q hq))
theorem lx_e1 : ∀ X ∈ xEl, Cond.castable X X ∈ lw_tbl := by decide +kernel
theorem lx_e2 : ∀ Y ∈ xDl, Cond.declares (Bundle.init0 Y) ∈ lw_tbl := by decide +kernel
theorem lx_X {s : State} {b : Nat} {A : Nat → Prop} (htsT : ∀ w ∈ lw_tbl, w.before #[Value.ref b] s = true) (hgv : (Jvm.Cond.and given_1 narrow_1).before #[Value.ref b] s = true) (hA : ∀ a : Nat, a < s.heap.size → ¬ A a) : xX A s :=
  ⟨⟨vx_Zqof (htsT (.laysStatic Bundle.tN "UNASSIGNED_STACK" Bundle.steD) (by decide +kernel)) (htsT (.initialized Bundle.tN) (by decide +kernel)) (flat_of_before _ hgv (.isRef (.static Bundle.tN "UNASSIGNED_STACK" Bundle.steD)) (by decide +kernel)) hA, vx_Zqof (htsT (.laysStatic Bundle.tN "SUPPRESSED_SENTINEL" Bundle.listD) (by decide +kernel)) (htsT (.initialized Bundle.tN) (by decide +kernel)) (flat_of_before _ hgv (.isRef (.static Bundle.tN "SUPPRESSED_SENTINEL" Bundle.listD)) (by decide +kernel)) hA⟩, fun X hX => va_Nw.of rfl (htsT _ (lx_e1 X hX)), fun Y hY => va_Nw.of rfl (htsT _ (lx_e2 Y hY))⟩
theorem lx_Nc {s : State} {b : Nat} (hgv : (Jvm.Cond.and given_1 narrow_1).before #[Value.ref b] s = true) : xNC s := ⟨va_Nc.of (flat_of_before _ hgv (Cond.not (.castable "java/lang/IllegalStateException" "java/lang/IllegalArgumentException")) (by decide +kernel)), va_Nc.of (flat_of_before _ hgv (Cond.not (.castable "java/lang/IllegalStateException" "java/util/NoSuchElementException")) (by decide +kernel)), va_Nc.of (flat_of_before _ hgv (Cond.not (.castable "java/lang/IllegalArgumentException" "java/util/NoSuchElementException")) (by decide +kernel))⟩
theorem lx_K {s : State} {b : Nat} (hts : ∀ w ∈ wsG, w.before #[Value.ref b] s = true) : ∃ (dC : Nat → ClassId) (dI : Nat → Nat → Nat), ∀ (k : Nat) (q : vw_C), vwCl[k]? = some q → u_Kn s q.1 q.2.1 q.2.2 (dC k) (dI k) := by
  obtain ⟨c0, i0, h0⟩ := u_known (C := RX0) (T := TX0) (N := 7) (n := 7) hts inG0 (hts _ k176)
  obtain ⟨c1, i1, h1⟩ := u_known (C := RX1) (T := TX1) (N := 8) (n := 8) hts inG1 (hts _ k258)
  obtain ⟨c2, i2, h2⟩ := u_known (C := RX2) (T := TX2) (N := 9) (n := 9) hts inG2 (hts _ k219)
  obtain ⟨c3, i3, h3⟩ := u_known (C := RX3) (T := TX3) (N := 5) (n := 5) hts inG3 (hts _ k123)
  obtain ⟨c4, i4, h4⟩ := u_known (C := RX4) (T := TX4) (N := 8) (n := 8) hts inG4 (hts _ k69)
  obtain ⟨c5, i5, h5⟩ := u_known (C := RX5) (T := TX5) (N := 8) (n := 8) hts inG5 (hts _ k30)
  obtain ⟨c6, i6, h6⟩ := u_known (C := RX6) (T := TX6) (N := 6) (n := 6) hts inG6 (hts _ k148)
  obtain ⟨c7, i7, h7⟩ := u_known (C := RX7) (T := TX7) (N := 5) (n := 5) hts inG7 (hts _ k266)
  obtain ⟨c8, i8, h8⟩ := u_known (C := RX8) (T := TX8) (N := 2) (n := 2) hts inG8 (hts _ k205)
  obtain ⟨c9, i9, h9⟩ := u_known (C := RX9) (T := TX9) (N := 15) (n := 15) hts inG9 (hts _ k22)
  obtain ⟨c10, i10, h10⟩ := u_known (C := RX10) (T := TX10) (N := 53) (n := 53) hts inG10 (hts _ k1158)
  refine ⟨fun k => match k with | 0 => c0 | 1 => c1 | 2 => c2 | 3 => c3 | 4 => c4 | 5 => c5 | 6 => c6 | 7 => c7 | 8 => c8 | 9 => c9 | _ => c10, fun k => match k with | 0 => i0 | 1 => i1 | 2 => i2 | 3 => i3 | 4 => i4 | 5 => i5 | 6 => i6 | 7 => i7 | 8 => i8 | 9 => i9 | _ => i10, ?_⟩
  intro k q hq
  match k, hq with
  | 0, hq => cases hq; exact h0
  | 1, hq => cases hq; exact h1
  | 2, hq => cases hq; exact h2
  | 3, hq => cases hq; exact h3
  | 4, hq => cases hq; exact h4
  | 5, hq => cases hq; exact h5
  | 6, hq => cases hq; exact h6
  | 7, hq => cases hq; exact h7
  | 8, hq => cases hq; exact h8
  | 9, hq => cases hq; exact h9
  | 10, hq => cases hq; exact h10
  | k + 11, hq => simp [vwCl] at hq
theorem lx_KA {s : State} {b : Nat} (htsT : ∀ w ∈ lw_tbl, w.before #[Value.ref b] s = true) : ∃ (dC : Nat → ClassId) (dI : Nat → Nat → Nat) (cI cL cII cR cZ cIII cO : ClassId), va_K (dC, dI) vwCl (sT cI cL cII cR) s ∧ va_K (dC, dI) vwCl (mT cI cZ cII cIII) s ∧ va_K (dC, dI) vwCl [(cO, .long)] s := by
  obtain ⟨dC, dI, hKc⟩ := lx_K (fun w h => htsT w (wsG_tbl h))
  obtain ⟨cI, i1, i2⟩ := ka_arr (htsT (.arrayClass .int) (by decide +kernel))
  obtain ⟨cZ, z1, z2⟩ := ka_arr (htsT (.arrayClass .boolean) (by decide +kernel))
  obtain ⟨cO, o1, o2⟩ := ka_arr (htsT (.arrayClass .long) (by decide +kernel))
  obtain ⟨cII, j1, j2⟩ := ka_arr2 (htsT (.arrayOver (.array .int)) (by decide +kernel))
  obtain ⟨cIII, k1, k2⟩ := ka_arr2 (htsT (.arrayOver (.array (.array .int))) (by decide +kernel))
  obtain ⟨cL, l1, l2⟩ := ka_obj (htsT (.arrayOver (.object "PageSkeleton$Leaf")) (by decide +kernel))
  obtain ⟨cR, r1, r2⟩ := ka_obj (htsT (.arrayOver (.object "PageSkeleton$Row")) (by decide +kernel))
  exact ⟨dC, dI, cI, cL, cII, cR, cZ, cIII, cO, ⟨hKc, ka_cons ⟨i1, i2⟩ (ka_cons ⟨l1, l2⟩ (ka_cons ⟨j1, j2⟩ (ka_cons ⟨r1, r2⟩ ka_nil)))⟩, ⟨hKc, ka_cons ⟨i1, i2⟩ (ka_cons ⟨z1, z2⟩ (ka_cons ⟨j1, j2⟩ (ka_cons ⟨k1, k2⟩ ka_nil)))⟩, hKc, ka_cons ⟨o1, o2⟩ ka_nil⟩
theorem iZ_ofNat (n : Nat) : Int32.ofNat n = iZ n := by
  unfold iZ
  first | exact Int32.ofInt_eq_ofNat.symm | rfl
set_option maxHeartbeats 8000000 in
set_option maxRecDepth 100000 in
theorem lw_loop {p : Program} {l : Launch} {e : Env} {s : State} {m : MethodId} {below : List Frame} {meth : Method} {c : Code} {dC : Nat → ClassId} {dI : Nat → Nat → Nat} {cI cL cII cR cZ cIII cO : ClassId} {h0 b L : Nat} {xs : Nat → Int32} (hlocks : meth.locks = false) (hret : meth.sig.returnType = ret) (C0 : lx_C p l s m c b L xs dC dI cI cL cII cR cZ cIII cO h0) :
    ∀ (n : Nat) (i : Int) (cells slots : Nat) (μ ν : va_M) (f : Nat → Int64) (H : Heap) (locs : List Loc) (ls : Array Slot), 0 ≤ i → i ≤ 3072 → (3078 - i).toNat < n → (cells : Int) ≤ 6559 + i → (slots : Int) ≤ 850824 + 6 * i → LW9 μ ν → LW dC dI cI cL cII cR cZ cIII cO h0 μ ν f H → va_S (lA h0) s.heap H locs → lv_has ls 7 [(4, .int (iZ i)), (0, .ref b), (1, .ref h0), (2, .ref (h0 + 233)), (3, .ref (h0 + 6558))] → W p l e room_1 s m #[Value.ref b] below meth c H locs cells slots (lw_Z below #[Value.ref b] s) (F0 m 23 ls []) := by
  intro n
  induction n with
  | zero => intro i cells slots μ ν f H locs ls h1 h2 hn; (first | ((try clear hret); omega) | omega)
  | succ n ih =>
  intro i cells slots μ ν f H locs ls h1 h2 hn hc hsl hV hW hS hl
  obtain ⟨hfl, hx, hb, hml, hown, hts, hX, hbl, hsz0, hL9, hK, hKm, hKo, hM, hEx, hNc⟩ := id C0
  have hbA : ¬ lA h0 b := Nat.not_le.mpr (by (first | ((try clear hbA); (try clear hV); (try clear hsl); (try clear hc); (try clear hn); (try clear h2); (try clear h1); (try clear hret); omega) | omega))
  refine lv_iload hx hb dL_law_23 (lv_at hl 0 rfl) ?_
  refine lv_aload_n hx hb dL_law_25 rfl (lv_at hl 1 rfl) ?_
  refine va_slen hx hb hX hbl hbA hS dL_law_26 ?_
  rw [iZ_ofNat L]
  refine lv_bipush (v := iZ 6) hx hb dL_law_27 rfl ?_
  refine lv_isub hx hb dL_law_29 ?_
  refine lv_topi (fun x9 ex9 => ?_)
  obtain rfl : x9 = iZ ((L : Int) - 6) := ex9.trans (iZ_sub _ _)
  have r1 : inR ((L : Int) - 6) := by constructor <;> (first | ((try clear ex9); (try clear hbA); (try clear hsz0); (try clear hV); (try clear hsl); (try clear hc); (try clear hn); (try clear h2); (try clear h1); (try clear hret); omega) | omega)
  have r2 : inR i := by constructor <;> (first | ((try clear ex9); (try clear hbA); (try clear hsz0); (try clear hV); (try clear hsl); (try clear hc); (try clear hn); (try clear hret); omega) | omega)
  refine lv_icmp_gt (tgt := 1474) hx hb dL_law_30 (by decide) (fun _ => ?_) (fun c9 => ?_)
  · refine lv_iconst (v := 1) hx hb dL_law_1474 (by decide) ?_
    refine va_forget (fun q hq => by rw [hsz0]; exact hS.2.2 q hq) ?_
    refine W.widen (k := 601024) (n := 7293034) (by (first | ((try clear c9); (try clear ex9); (try clear hbA); (try clear hsz0); (try clear hV); (try clear hsl); (try clear hn); (try clear hret); omega) | omega)) (by (first | ((try clear c9); (try clear ex9); (try clear hbA); (try clear hsz0); (try clear hV); (try clear hc); (try clear hn); (try clear hret); omega) | omega)) ?_
    exact lw_ret hx hb hret hlocks dL_law_1475
  have hi6 : i + 6 ≤ L := by
    have q := (not_congr (iZ_lt r1 r2)).mp c9
    (first | ((try clear hi6); (try clear c9); (try clear ex9); (try clear hbA); (try clear hsz0); (try clear hV); (try clear hsl); (try clear hc); (try clear hn); (try clear h2); (try clear h1); (try clear hret); omega) | omega)
  have hend : ∀ (μ ν : va_M) (f : Nat → Int64) (H : Heap) (locs : List Loc) (ls : Array Slot), LW9 μ ν → LW dC dI cI cL cII cR cZ cIII cO h0 μ ν f H → va_S (lA h0) s.heap H locs → lv_has ls 7 [(4, .int (iZ i)), (0, .ref b), (1, .ref h0), (2, .ref (h0 + 233)), (3, .ref (h0 + 6558))] → W p l e room_1 s m #[Value.ref b] below meth c H locs (cells + 1) (slots + 6) (lw_Z below #[Value.ref b] s) (F0 m 1468 ls []) := by
    intro μ ν f H locs ls hV hW hS hl
    refine lv_iinc (v := iZ (i + 6)) (lv' := [(4, .int (iZ (i + 6))), (0, .ref b), (1, .ref h0), (2, .ref (h0 + 233)), (3, .ref (h0 + 6558))]) hx hb dL_law_1468 hl (k := 0) rfl (iZ_add _ _) (by decide) rfl (fun ls hl => ?_)
    refine lv_goto (tgt := 23) hx hb dL_law_1471 (by decide) ?_
    exact ih (i + 6) _ _ _ _ _ _ _ _ (by (first | ((try clear hV); (try clear hend); (try clear hi6); (try clear c9); (try clear ex9); (try clear hbA); (try clear hsz0); (try clear hsl); (try clear hc); (try clear hn); (try clear hret); omega) | omega)) (by (first | ((try clear hV); (try clear hend); (try clear c9); (try clear ex9); (try clear hbA); (try clear hsz0); (try clear hsl); (try clear hc); (try clear hn); (try clear hret); omega) | omega)) (by (first | ((try clear hV); (try clear hend); (try clear c9); (try clear ex9); (try clear hbA); (try clear hsz0); (try clear hsl); (try clear hc); (try clear hret); omega) | omega)) (by (first | ((try clear hV); (try clear hend); (try clear hi6); (try clear c9); (try clear ex9); (try clear hbA); (try clear hsz0); (try clear hsl); (try clear hn); (try clear h2); (try clear h1); (try clear hret); omega) | omega)) (by (first | ((try clear hV); (try clear hend); (try clear hi6); (try clear c9); (try clear ex9); (try clear hbA); (try clear hsz0); (try clear hc); (try clear hn); (try clear h2); (try clear h1); (try clear hret); omega) | omega)) hV hW hS hl
  refine lv_aload_n hx hb dL_law_33 rfl (lv_at hl 1 rfl) ?_
  refine lv_iload hx hb dL_law_34 (lv_at hl 0 rfl) ?_
  refine va_sld hx hb hX hbl hbA hS (iZ_in (by (first | ((try clear hend); (try clear hi6); (try clear c9); (try clear ex9); (try clear hbA); (try clear hsz0); (try clear hV); (try clear hsl); (try clear hc); (try clear hn); (try clear h2); (try clear hret); omega) | omega)) (by (first | ((try clear hend); (try clear c9); (try clear ex9); (try clear hbA); (try clear hsz0); (try clear hV); (try clear hsl); (try clear hc); (try clear hn); (try clear h2); (try clear h1); (try clear hret); omega) | omega)) (by (first | ((try clear hend); (try clear hi6); (try clear c9); (try clear ex9); (try clear hbA); (try clear hsz0); (try clear hV); (try clear hsl); (try clear hc); (try clear hn); (try clear h2); (try clear h1); (try clear hret); omega) | omega))) dL_law_36 ?_
  refine lv_bipush (v := 63) hx hb dL_law_37 (by decide) ?_
  refine lv_iand hx hb dL_law_39 ?_
  obtain ⟨j, hj, ej⟩ := pk_andE (xs (iZ i).toNatClampNeg) (m := 63) 6 (by decide +kernel)
  rw [ej]
  clear ej ih
  have hroom : cells + 1 ≤ 601024 ∧ slots + 6 ≤ 7293034 := by constructor <;> (first | ((try clear hroom); (try clear ej); (try clear hj); (try clear hend); (try clear c9); (try clear ex9); (try clear hbA); (try clear hsz0); (try clear hV); (try clear hn); (try clear h2); (try clear h1); (try clear hret); omega) | omega)
  by_cases h38 : 38 ≤ j
  · refine lv_tableOut (tgt := 1468) hx hb dL_law_40 (Or.inr (by rw [nI_toInt (by (first | ((try clear hroom); (try clear ej); (try clear hend); (try clear hi6); (try clear c9); (try clear ex9); (try clear hbA); (try clear hsz0); (try clear hV); (try clear hsl); (try clear hc); (try clear hn); (try clear h2); (try clear h1); (try clear hret); omega) | omega))]; (first | ((try clear hroom); (try clear ej); (try clear hend); (try clear hi6); (try clear c9); (try clear ex9); (try clear hbA); (try clear hsz0); (try clear hV); (try clear hsl); (try clear hc); (try clear hn); (try clear h2); (try clear h1); (try clear hret); omega) | omega))) (by decide) ?_
    refine W.widen (k := cells + 1) (n := slots + 6) (by (first | ((try clear h38); (try clear hroom); (try clear ej); (try clear hj); (try clear hend); (try clear hi6); (try clear c9); (try clear ex9); (try clear hbA); (try clear hsz0); (try clear hV); (try clear hsl); (try clear hc); (try clear hn); (try clear h2); (try clear h1); (try clear hret); omega) | omega)) (by (first | ((try clear h38); (try clear hroom); (try clear ej); (try clear hj); (try clear hend); (try clear hi6); (try clear c9); (try clear ex9); (try clear hbA); (try clear hsz0); (try clear hV); (try clear hsl); (try clear hc); (try clear hn); (try clear h2); (try clear h1); (try clear hret); omega) | omega)) ?_
    exact hend _ _ _ H locs ls hV hW hS hl
  rcases (show j = 0 ∨ j = 1 ∨ j = 2 ∨ j = 3 ∨ j = 4 ∨ j = 5 ∨ j = 6 ∨ j = 7 ∨ j = 8 ∨ j = 9 ∨ j = 10 ∨ j = 11 ∨ j = 12 ∨ j = 13 ∨ j = 14 ∨ j = 15 ∨ j = 16 ∨ j = 17 ∨ j = 18 ∨ j = 19 ∨ j = 20 ∨ j = 21 ∨ j = 22 ∨ j = 23 ∨ j = 24 ∨ j = 25 ∨ j = 26 ∨ j = 27 ∨ j = 28 ∨ j = 29 ∨ j = 30 ∨ j = 31 ∨ j = 32 ∨ j = 33 ∨ j = 34 ∨ j = 35 ∨ j = 36 ∨ j = 37 by (first | ((try clear hroom); (try clear ej); (try clear hend); (try clear hi6); (try clear c9); (try clear ex9); (try clear hbA); (try clear hsz0); (try clear hV); (try clear hsl); (try clear hc); (try clear hn); (try clear h2); (try clear h1); (try clear hret); omega) | omega)) with rfl | rfl | rfl | rfl | rfl | rfl | rfl | rfl | rfl | rfl | rfl | rfl | rfl | rfl | rfl | rfl | rfl | rfl | rfl | rfl | rfl | rfl | rfl | rfl | rfl | rfl | rfl | rfl | rfl | rfl | rfl | rfl | rfl | rfl | rfl | rfl | rfl | rfl
  · refine lv_tableIn (tgt := 208) (off := 168) hx hb dL_law_40 (by decide +kernel) (by decide +kernel) (by decide +kernel) (by decide) ?_
    exact lc_feed C0 ⟨h1, hi6⟩ hV hroom hend hW hS hl
  · refine lv_tableIn (tgt := 281) (off := 241) hx hb dL_law_40 (by decide +kernel) (by decide +kernel) (by decide +kernel) (by decide) ?_
    exact lc_page C0 ⟨h1, hi6⟩ hV hroom hend hW hS hl
  · refine lv_tableIn (tgt := 309) (off := 269) hx hb dL_law_40 (by decide +kernel) (by decide +kernel) (by decide +kernel) (by decide) ?_
    exact lc_fault C0 ⟨h1, hi6⟩ hV hroom hend hW hS hl
  · refine lv_tableIn (tgt := 322) (off := 282) hx hb dL_law_40 (by decide +kernel) (by decide +kernel) (by decide +kernel) (by decide) ?_
    exact lc_lay C0 ⟨h1, hi6⟩ hV hroom hend hW hS hl
  · refine lv_tableIn (tgt := 350) (off := 310) hx hb dL_law_40 (by decide +kernel) (by decide +kernel) (by decide +kernel) (by decide) ?_
    exact lc_tidy C0 ⟨h1, hi6⟩ hV hroom hend hW hS hl
  · refine lv_tableIn (tgt := 363) (off := 323) hx hb dL_law_40 (by decide +kernel) (by decide +kernel) (by decide +kernel) (by decide) ?_
    exact lc_tidied C0 ⟨h1, hi6⟩ hV hroom hend hW hS hl
  · refine lv_tableIn (tgt := 391) (off := 351) hx hb dL_law_40 (by decide +kernel) (by decide +kernel) (by decide +kernel) (by decide) ?_
    exact lc_undo C0 ⟨h1, hi6⟩ hV hroom hend hW hS hl
  · refine lv_tableIn (tgt := 404) (off := 364) hx hb dL_law_40 (by decide +kernel) (by decide +kernel) (by decide +kernel) (by decide) ?_
    exact lc_clear C0 ⟨h1, hi6⟩ hV hroom hend hW hS hl
  · refine lv_tableIn (tgt := 417) (off := 377) hx hb dL_law_40 (by decide +kernel) (by decide +kernel) (by decide +kernel) (by decide) ?_
    exact lc_told C0 ⟨h1, hi6⟩ hV hroom hend hW hS hl
  · refine lv_tableIn (tgt := 445) (off := 405) hx hb dL_law_40 (by decide +kernel) (by decide +kernel) (by decide +kernel) (by decide) ?_
    exact lc_pageOf C0 ⟨h1, hi6⟩ hV hroom hend hW hS hl
  · refine lv_tableIn (tgt := 485) (off := 445) hx hb dL_law_40 (by decide +kernel) (by decide +kernel) (by decide +kernel) (by decide) ?_
    exact lc_token C0 ⟨h1, hi6⟩ hV hroom hend hW hS hl
  · refine lv_tableIn (tgt := 525) (off := 485) hx hb dL_law_40 (by decide +kernel) (by decide +kernel) (by decide +kernel) (by decide) ?_
    exact lc_tokenOf C0 ⟨h1, hi6⟩ hV hroom hend hW hS hl
  · refine lv_tableIn (tgt := 565) (off := 525) hx hb dL_law_40 (by decide +kernel) (by decide +kernel) (by decide +kernel) (by decide) ?_
    exact lc_node C0 ⟨h1, hi6⟩ hV hroom hend hW hS hl
  · refine lv_tableIn (tgt := 605) (off := 565) hx hb dL_law_40 (by decide +kernel) (by decide +kernel) (by decide +kernel) (by decide) ?_
    exact lc_pageNode C0 ⟨h1, hi6⟩ hV hroom hend hW hS hl
  · refine lv_tableIn (tgt := 657) (off := 617) hx hb dL_law_40 (by decide +kernel) (by decide +kernel) (by decide +kernel) (by decide) ?_
    exact lc_fits C0 ⟨h1, hi6⟩ hV hroom hend hW hS hl
  · refine lv_tableIn (tgt := 685) (off := 645) hx hb dL_law_40 (by decide +kernel) (by decide +kernel) (by decide +kernel) (by decide) ?_
    exact lc_reach C0 ⟨h1, hi6⟩ hV hroom hend hW hS hl
  · refine lv_tableIn (tgt := 713) (off := 673) hx hb dL_law_40 (by decide +kernel) (by decide +kernel) (by decide +kernel) (by decide) ?_
    exact lc_ways C0 ⟨h1, hi6⟩ hV hroom hend hW hS hl
  · refine lv_tableIn (tgt := 741) (off := 701) hx hb dL_law_40 (by decide +kernel) (by decide +kernel) (by decide +kernel) (by decide) ?_
    exact lc_times C0 ⟨h1, hi6⟩ hV hroom hend hW hS hl
  · refine lv_tableIn (tgt := 781) (off := 741) hx hb dL_law_40 (by decide +kernel) (by decide +kernel) (by decide +kernel) (by decide) ?_
    exact lc_passes C0 ⟨h1, hi6⟩ hV hroom hend hW hS hl
  · refine lv_tableIn (tgt := 821) (off := 781) hx hb dL_law_40 (by decide +kernel) (by decide +kernel) (by decide +kernel) (by decide) ?_
    exact lc_value C0 ⟨h1, hi6⟩ hV hroom hend hW hS hl
  · refine lv_tableIn (tgt := 873) (off := 833) hx hb dL_law_40 (by decide +kernel) (by decide +kernel) (by decide +kernel) (by decide) ?_
    exact lc_taker C0 ⟨h1, hi6⟩ hV hroom hend hW hS hl
  · refine lv_tableIn (tgt := 913) (off := 873) hx hb dL_law_40 (by decide +kernel) (by decide +kernel) (by decide +kernel) (by decide) ?_
    exact lc_unlike C0 ⟨h1, hi6⟩ hV hroom hend hW hS hl
  · refine lv_tableIn (tgt := 941) (off := 901) hx hb dL_law_40 (by decide +kernel) (by decide +kernel) (by decide +kernel) (by decide) ?_
    exact lc_would C0 ⟨h1, hi6⟩ hV hroom hend hW hS hl
  · refine lv_tableIn (tgt := 981) (off := 941) hx hb dL_law_40 (by decide +kernel) (by decide +kernel) (by decide +kernel) (by decide) ?_
    exact lc_distance C0 ⟨h1, hi6⟩ hV hroom hend hW hS hl
  · refine lv_tableIn (tgt := 1021) (off := 981) hx hb dL_law_40 (by decide +kernel) (by decide +kernel) (by decide +kernel) (by decide) ?_
    exact lc_nearest C0 ⟨h1, hi6⟩ hV hroom hend hW hS hl
  · refine lv_tableIn (tgt := 1049) (off := 1009) hx hb dL_law_40 (by decide +kernel) (by decide +kernel) (by decide +kernel) (by decide) ?_
    exact lc_orders C0 ⟨h1, hi6⟩ hV hroom hend hW hS hl
  · refine lv_tableIn (tgt := 1077) (off := 1037) hx hb dL_law_40 (by decide +kernel) (by decide +kernel) (by decide +kernel) (by decide) ?_
    exact lc_shortest C0 ⟨h1, hi6⟩ hV hroom hend hW hS hl
  · refine lv_tableIn (tgt := 1090) (off := 1050) hx hb dL_law_40 (by decide +kernel) (by decide +kernel) (by decide +kernel) (by decide) ?_
    exact lc_firm C0 ⟨h1, hi6⟩ hV hroom hend hW hS hl
  · refine lv_tableIn (tgt := 1118) (off := 1078) hx hb dL_law_40 (by decide +kernel) (by decide +kernel) (by decide +kernel) (by decide) ?_
    exact lc_alike C0 ⟨h1, hi6⟩ hV hroom hend hW hS hl
  · refine lv_tableIn (tgt := 1158) (off := 1118) hx hb dL_law_40 (by decide +kernel) (by decide +kernel) (by decide +kernel) (by decide) ?_
    exact lc_cuts C0 ⟨h1, hi6⟩ hV hroom hend hW hS hl
  · refine lv_tableIn (tgt := 1214) (off := 1174) hx hb dL_law_40 (by decide +kernel) (by decide +kernel) (by decide +kernel) (by decide) ?_
    exact lc_derived C0 ⟨h1, hi6⟩ hV hroom hend hW hS hl
  · refine lv_tableIn (tgt := 1242) (off := 1202) hx hb dL_law_40 (by decide +kernel) (by decide +kernel) (by decide +kernel) (by decide) ?_
    exact lc_common C0 ⟨h1, hi6⟩ hV hroom hend hW hS hl
  · refine lv_tableIn (tgt := 1282) (off := 1242) hx hb dL_law_40 (by decide +kernel) (by decide +kernel) (by decide +kernel) (by decide) ?_
    exact lc_similar C0 ⟨h1, hi6⟩ hV hroom hend hW hS hl
  · refine lv_tableIn (tgt := 1322) (off := 1282) hx hb dL_law_40 (by decide +kernel) (by decide +kernel) (by decide +kernel) (by decide) ?_
    exact lc_step C0 ⟨h1, hi6⟩ hV hroom hend hW hS hl
  · refine lv_tableIn (tgt := 1374) (off := 1334) hx hb dL_law_40 (by decide +kernel) (by decide +kernel) (by decide +kernel) (by decide) ?_
    exact lc_users C0 ⟨h1, hi6⟩ hV hroom hend hW hS hl
  · refine lv_tableIn (tgt := 1402) (off := 1362) hx hb dL_law_40 (by decide +kernel) (by decide +kernel) (by decide +kernel) (by decide) ?_
    exact lc_greatest C0 ⟨h1, hi6⟩ hV hroom hend hW hS hl
  · refine lv_tableIn (tgt := 1430) (off := 1390) hx hb dL_law_40 (by decide +kernel) (by decide +kernel) (by decide +kernel) (by decide) ?_
    exact lc_fitting C0 ⟨h1, hi6⟩ hV hroom hend hW hS hl
  · refine lv_tableIn (tgt := 1443) (off := 1403) hx hb dL_law_40 (by decide +kernel) (by decide +kernel) (by decide +kernel) (by decide) ?_
    exact lc_status C0 ⟨h1, hi6⟩ hV hroom hend hW hS hl
set_option maxHeartbeats 16000000 in
set_option maxRecDepth 100000 in
theorem whole_start {p : Program} {e : Env} {s : State} {m : MethodId} {below : List Frame} {meth : Method} {c : Code} (l : Launch) (hflags : l.flags = flags0) {b L : Nat} {xs : Nat → Int32} (hL : L ≤ 3072) (C0 : lw_At p s m meth c b L xs) : W p l e room_1 s m #[Value.ref b] below meth c s.heap [] 0 0 (lw_Z below #[Value.ref b] s) (entryFrame m ([Value.ref b] : List Value).toArray 7) := by
  obtain ⟨hx, hb, hr, hml, hown, htsT, hX, hbl, hlocks, hgv⟩ := C0
  have hts : ∀ w ∈ wsG, w.before #[Value.ref b] s = true := fun w h => htsT w (wsG_tbl h)
  have hfl : l.stackTraces = false := by unfold Launch.stackTraces; rw [hflags]; decide +kernel
  obtain ⟨h0, hsz0⟩ : ∃ h0 : Nat, s.heap.size = h0 := ⟨_, rfl⟩
  have hN9 : xN s := lx_N htsT
  have hM : xM s := lx_M htsT
  have hEx : xX (lA h0) s := lx_X htsT hgv (fun a h => Nat.not_le.mpr (by (first | ((try clear size); (try clear heap); (try clear hgv); (try clear htsT); (try clear hL); (try clear hflags); omega) | omega)))
  have hNc : xNC s := lx_Nc hgv
  obtain ⟨dC, dI, cI, cL, cII, cR, cZ, cIII, cO, hK, hKm, hKo⟩ := lx_KA htsT
  have hS : va_S (lA h0) s.heap s.heap [] := va_S.rf
  have hl := lv_entry ([.ref b]) (n := 7) (Nat.le_of_ble_eq_true rfl)
  rw [lg_entry_eq]
  generalize (lg_sl ([.ref b]) ++ List.replicate (7 - (lg_sl ([.ref b])).length) Slot.unset).toArray = ls at hl ⊢
  have hl : lv_has ls 7 [(0, .ref b)] := hl
  -- the class
  refine lz_obj (D := (dC, dI)) (cl := vwCl) (ci := 9) (fs := [.null, .null, .int 0, .null, .null, .int 0, .int 0, .null, .null, .null, .null, .null, .null, .null, .null]) (C := RX9) (T := TX9) (N := 15) hx hb hts inG9 tyX9 tyX9_ok hown (hts _ k21) (hts _ k22) (hts _ k1) (hK.1 9 _ rfl) hS rfl (fun j hj => by rcases (show j = 0 ∨ j = 1 ∨ j = 2 ∨ j = 3 ∨ j = 4 ∨ j = 5 ∨ j = 6 ∨ j = 7 ∨ j = 8 ∨ j = 9 ∨ j = 10 ∨ j = 11 ∨ j = 12 ∨ j = 13 ∨ j = 14 by (first | ((try clear size); (try clear heap); (try clear hsz0); (try clear hgv); (try clear htsT); (try clear hL); (try clear hflags); omega) | omega)) with rfl | rfl | rfl | rfl | rfl | rfl | rfl | rfl | rfl | rfl | rfl | rfl | rfl | rfl | rfl <;> rfl) (Nat.le_of_ble_eq_true rfl) (Nat.le_of_ble_eq_true rfl) dL_law_0 hsz0 (fun H hz hq hP hS => ?_)
  refine W.widen (k := 1) (n := 15) (by (first | ((try clear hq); (try clear hz); (try clear size); (try clear heap); (try clear hsz0); (try clear hgv); (try clear htsT); (try clear hL); (try clear hflags); omega) | omega)) (by (first | ((try clear hq); (try clear hz); (try clear size); (try clear heap); (try clear hsz0); (try clear hgv); (try clear htsT); (try clear hL); (try clear hflags); omega) | omega)) ?_
  refine lv_dup hx hb dL_law_3 rfl ?_
  refine va_callv (va_runI (As := []) (rest := [.ref h0]) ⟨hx, hb, hml, hown, hts⟩ (k_X9 l dC dI h0 cI cL cII cR) (cwI 0 hts (gI_G k25) rfl rfl rfl (hts _ k1) (hts _ k23) (hts _ k24) rfl (by decide +kernel) ⟨Nat.le_of_ble_eq_true rfl, Nat.le_of_ble_eq_true rfl⟩) ⟨fun a U g mk q => by obtain ⟨q0, q1, qP, qK, qE, qM⟩ := q; exact ⟨q0, q1, qP, va_K.moved (u := U) (U := U.calling g mk a) (Vm.Alike.refl U.vm) qK, xN_call qE, qM⟩, fun U hU hW => ⟨rfl, by rw [hU]; exact hz, by rw [hU]; exact hP, va_K.moved hW.alike hK, xN_warm hW hN9, xM_warm hW hM⟩⟩ rfl rfl hl.1 rfl (lv_room (Nat.le_of_ble_eq_true rfl)) dL_law_4 ⟨Nat.le_of_ble_eq_true rfl, Nat.le_of_ble_eq_true rfl⟩) hS (fun q _ h => h.elim (fun h => h.1) (fun h => Nat.le_trans (Nat.le_succ h0) h)) (fun q h => h.elim (fun h => h.1) (fun h => Nat.le_trans (Nat.le_succ h0) h)) (fun u t H1 locs ht hvm hw hB hz1 hk1 hS => ?_)
  obtain ⟨hP1, -⟩ := hB
  rw [ht] at hP1
  clear hk1 hz1 hP hq hz
  obtain ⟨hf9, h59⟩ := hw
  rw [fw_nz] at hP1
  have hV := LW_start hf9 h59
  generalize nz u = μ at hP1 hV
  clear hf9 h59 ht
  refine cz_size (fun hle => ?_)
  have hsz1 : H1.size = h0 + 233 := by
    have h9 := (fl_at hP1 (k := 232) (by decide)).lt
    simp only at h9
    (first | ((try clear hsz1); (try clear hV); (try clear h59); (try clear hf9); (try clear hP1); (try clear hk1); (try clear hz1); (try clear hB); (try clear hw); (try clear hvm); (try clear ht); (try clear t); (try clear u); (try clear hq); (try clear hz); (try clear size); (try clear heap); (try clear hgv); (try clear htsT); (try clear hL); (try clear hflags); omega) | omega)
  refine lv_astore_n (lv' := [(1, .ref h0), (0, .ref b)]) hx hb dL_law_7 rfl hl (by decide) rfl (fun ls hl => ?_)
  -- the reference
  refine lz_obj (D := (dC, dI)) (cl := vwCl) (ci := 10) (fs := [.int 0, .null, .int 0, .int 0, .int 0, .int 0, .int 0, .int 0, .null, .int 0, .int 0, .null, .null, .null, .null, .null, .null, .null, .null, .null, .null, .null, .int 0, .int 0, .int 0, .null, .null, .int 0, .int 0, .null, .null, .null, .null, .int 0, .null, .null, .null, .null, .int 0, .int 0, .null, .null, .null, .null, .null, .null, .null, .null, .null, .null, .null, .null, .null]) (C := RX10) (T := TX10) (N := 53) hx hb hts inG10 tyX10 tyX10_ok hown (hts _ k1157) (hts _ k1158) (hts _ k13) (hKm.1 10 _ rfl) hS rfl (fun j hj => by rcases (show j = 0 ∨ j = 1 ∨ j = 2 ∨ j = 3 ∨ j = 4 ∨ j = 5 ∨ j = 6 ∨ j = 7 ∨ j = 8 ∨ j = 9 ∨ j = 10 ∨ j = 11 ∨ j = 12 ∨ j = 13 ∨ j = 14 ∨ j = 15 ∨ j = 16 ∨ j = 17 ∨ j = 18 ∨ j = 19 ∨ j = 20 ∨ j = 21 ∨ j = 22 ∨ j = 23 ∨ j = 24 ∨ j = 25 ∨ j = 26 ∨ j = 27 ∨ j = 28 ∨ j = 29 ∨ j = 30 ∨ j = 31 ∨ j = 32 ∨ j = 33 ∨ j = 34 ∨ j = 35 ∨ j = 36 ∨ j = 37 ∨ j = 38 ∨ j = 39 ∨ j = 40 ∨ j = 41 ∨ j = 42 ∨ j = 43 ∨ j = 44 ∨ j = 45 ∨ j = 46 ∨ j = 47 ∨ j = 48 ∨ j = 49 ∨ j = 50 ∨ j = 51 ∨ j = 52 by (first | ((try clear hsz1); (try clear hle); (try clear hV); (try clear h59); (try clear hf9); (try clear hP1); (try clear hk1); (try clear hz1); (try clear hB); (try clear hw); (try clear hvm); (try clear ht); (try clear t); (try clear u); (try clear hq); (try clear hz); (try clear size); (try clear heap); (try clear hsz0); (try clear hgv); (try clear htsT); (try clear hL); (try clear hflags); omega) | omega)) with rfl | rfl | rfl | rfl | rfl | rfl | rfl | rfl | rfl | rfl | rfl | rfl | rfl | rfl | rfl | rfl | rfl | rfl | rfl | rfl | rfl | rfl | rfl | rfl | rfl | rfl | rfl | rfl | rfl | rfl | rfl | rfl | rfl | rfl | rfl | rfl | rfl | rfl | rfl | rfl | rfl | rfl | rfl | rfl | rfl | rfl | rfl | rfl | rfl | rfl | rfl | rfl | rfl <;> rfl) (Nat.le_of_ble_eq_true rfl) (Nat.le_of_ble_eq_true rfl) dL_law_8 hsz1 (fun H hz hq hP hS => ?_)
  have hP1 := fl_kept (A1 := fun _ => False) hP1 (fun q h _ => hq q h) (fun _ _ h => h)
  clear hq hsz1 hle
  refine lv_dup hx hb dL_law_11 rfl ?_
  have hP : va_P (dC, dI) vwCl (fl (h0 + 233) 1 (cw 10 (fun k => mE cI cZ cII cIII (h0 + 233) k (fun _ => 0)) [.int 0, .null, .int 0, .int 0, .int 0, .int 0, .int 0, .int 0, .null, .int 0, .int 0, .null, .null, .null, .null, .null, .null, .null, .null, .null, .null, .null, .int 0, .int 0, .int 0, .null, .null, .int 0, .int 0, .null, .null, .null, .null, .int 0, .null, .null, .null, .null, .int 0, .int 0, .null, .null, .null, .null, .null, .null, .null, .null, .null, .null, .null, .null, .null])) H := fl_eq hP (fun k hk => by rw [show k = 0 by (first | ((try clear hP1); (try clear hq); (try clear hz); (try clear hsz1); (try clear hle); (try clear hV); (try clear h59); (try clear hf9); (try clear hk1); (try clear hz1); (try clear hB); (try clear hw); (try clear hvm); (try clear ht); (try clear t); (try clear u); (try clear size); (try clear heap); (try clear hsz0); (try clear hgv); (try clear htsT); (try clear hL); (try clear hflags); omega) | omega)]; rfl)
  refine va_callv (va_runI (As := []) (rest := [.ref (h0 + 233)]) ⟨hx, hb, hml, hown, hts⟩ (c_M_new l dC dI (h0 + 233) cI cZ cII cIII) (cwI 0 hts (gI_G k1161) rfl rfl rfl (hts _ k13) (hts _ k1159) (hts _ k1160) rfl (by decide +kernel) ⟨Nat.le_of_ble_eq_true rfl, Nat.le_of_ble_eq_true rfl⟩) ⟨fun a U g mk q => by obtain ⟨q0, q1, qP, qK, qE⟩ := q; exact ⟨q0, q1, qP, va_K.moved (u := U) (U := U.calling g mk a) (Vm.Alike.refl U.vm) qK, qE⟩, fun U hU hW => ⟨rfl, by rw [hU]; exact hz, by rw [hU]; exact hP, va_K.moved hW.alike hKm, (xN_warm hW hN9).2.1⟩⟩ rfl rfl hl.1 rfl (lv_room (Nat.le_of_ble_eq_true rfl)) dL_law_12 ⟨Nat.le_of_ble_eq_true rfl, Nat.le_of_ble_eq_true rfl⟩) hS (fun q _ h => h.elim (fun h => by show h0 ≤ q; (first | ((try clear hP1); (try clear hq); (try clear hsz1); (try clear hle); (try clear hV); (try clear h59); (try clear hf9); (try clear hk1); (try clear hz1); (try clear hB); (try clear hw); (try clear hvm); (try clear ht); (try clear t); (try clear u); (try clear size); (try clear heap); (try clear hsz0); (try clear hgv); (try clear htsT); (try clear hL); (try clear hflags); omega) | omega)) (fun h => by show h0 ≤ q; (first | ((try clear hP1); (try clear hq); (try clear hsz1); (try clear hle); (try clear hV); (try clear h59); (try clear hf9); (try clear hk1); (try clear hz1); (try clear hB); (try clear hw); (try clear hvm); (try clear ht); (try clear t); (try clear u); (try clear size); (try clear heap); (try clear hsz0); (try clear hgv); (try clear htsT); (try clear hL); (try clear hflags); omega) | omega))) (fun q h => h.elim (fun h => by show h0 ≤ q; (first | ((try clear hP1); (try clear hq); (try clear hsz1); (try clear hle); (try clear hV); (try clear h59); (try clear hf9); (try clear hk1); (try clear hz1); (try clear hB); (try clear hw); (try clear hvm); (try clear ht); (try clear t); (try clear u); (try clear size); (try clear heap); (try clear hsz0); (try clear hgv); (try clear htsT); (try clear hL); (try clear hflags); omega) | omega)) (fun h => by show h0 ≤ q; (first | ((try clear hP1); (try clear hq); (try clear hsz1); (try clear hle); (try clear hV); (try clear h59); (try clear hf9); (try clear hk1); (try clear hz1); (try clear hB); (try clear hw); (try clear hvm); (try clear ht); (try clear t); (try clear u); (try clear size); (try clear heap); (try clear hsz0); (try clear hgv); (try clear htsT); (try clear hL); (try clear hflags); omega) | omega))) (fun u2 t H2 locs ht hvm2 hw hB hz1 hk2 hS => ?_)
  obtain ⟨hP2, -⟩ := hB
  rw [ht] at hP2
  have hP1 := fl_kept hP1 hk2 (fun k hk q => by rcases q with q | q <;> (first | ((try clear hP1); (try clear hP2); (try clear hk2); (try clear hz1); (try clear hB); (try clear hw); (try clear hvm2); (try clear ht); (try clear t); (try clear u2); (try clear hq); (try clear hz); (try clear hsz1); (try clear hle); (try clear hV); (try clear h59); (try clear hf9); (try clear hk1); (try clear hvm); (try clear u); (try clear size); (try clear heap); (try clear hsz0); (try clear hgv); (try clear htsT); (try clear hL); (try clear hflags); omega) | omega))
  clear hk2 hz1 hP ht
  refine cz_size (fun hle => ?_)
  have hsz2 : H2.size = h0 + 6558 := by
    have h9 := (fl_at hP2 (k := 6324) (by decide)).lt
    simp only at h9
    (first | ((try clear hsz2); (try clear hP1); (try clear hP2); (try clear hk2); (try clear hz1); (try clear hB); (try clear hw); (try clear hvm2); (try clear ht); (try clear t); (try clear u2); (try clear hq); (try clear hsz1); (try clear hV); (try clear h59); (try clear hf9); (try clear hk1); (try clear hvm); (try clear u); (try clear size); (try clear heap); (try clear hgv); (try clear htsT); (try clear hL); (try clear hflags); omega) | omega)
  refine lv_astore_n (lv' := [(2, .ref (h0 + 233)), (1, .ref h0), (0, .ref b)]) hx hb dL_law_15 rfl hl (by decide) rfl (fun ls hl => ?_)
  refine lv_iconst (v := 1) hx hb dL_law_16 (by decide) ?_
  refine va_newaK (atype := .long) (N := 1) (h := h0 + 6558) hx hb (htsT (.arrayClass .long) (by decide +kernel)) rfl dL_law_17 rfl (by decide) (by decide +kernel) (by decide +kernel) (Nat.le_of_ble_eq_true rfl) (Nat.le_of_ble_eq_true rfl) hsz2 (fun H cA e1 z1 o1 hAr hNm => ?_)
  have hcA : cA = cO := Option.some.inj (hNm.symm.trans (hKo.2 0 _ rfl).2)
  subst hcA
  have hP1 := fl_kept (A1 := fun _ => False) hP1 (fun q h _ => o1 q (by (first | ((try clear hP1); (try clear hcA); (try clear hNm); (try clear hAr); (try clear o1); (try clear e1); (try clear cA); (try clear hle); (try clear hP2); (try clear hk2); (try clear hz1); (try clear hB); (try clear hw); (try clear hvm2); (try clear ht); (try clear t); (try clear u2); (try clear hq); (try clear hsz1); (try clear hV); (try clear h59); (try clear hf9); (try clear hk1); (try clear hvm); (try clear u); (try clear size); (try clear heap); (try clear hsz0); (try clear hgv); (try clear htsT); (try clear hL); (try clear hflags); omega) | omega))) (fun _ _ h => h)
  have hP2 := fl_kept (A1 := fun _ => False) hP2 (fun q h _ => o1 q (by (first | ((try clear hP2); (try clear hP1); (try clear hcA); (try clear hNm); (try clear hAr); (try clear o1); (try clear e1); (try clear cA); (try clear hle); (try clear hk2); (try clear hz1); (try clear hB); (try clear hw); (try clear hvm2); (try clear ht); (try clear t); (try clear u2); (try clear hq); (try clear hsz1); (try clear hV); (try clear h59); (try clear hf9); (try clear hk1); (try clear hvm); (try clear u); (try clear size); (try clear heap); (try clear hsz0); (try clear hgv); (try clear htsT); (try clear hL); (try clear hflags); omega) | omega))) (fun _ _ h => h)
  have hO : va_P (dC, dI) vwCl [(h0 + 6558, .inl (cA, 1, .inr (.inl (fun _ => 0))))] H := fun k x hx9 => by
    match k, hx9 with
    | 0, hx9 => cases hx9; exact e1
    | k + 1, hx9 => simp at hx9
  have hS : va_S (lA h0) s.heap H locs := ⟨by (first | ((try clear hO); (try clear hP2); (try clear hP1); (try clear hcA); (try clear hNm); (try clear hAr); (try clear o1); (try clear e1); (try clear cA); (try clear hle); (try clear hk2); (try clear hz1); (try clear hB); (try clear hw); (try clear hvm2); (try clear ht); (try clear t); (try clear u2); (try clear hq); (try clear hsz1); (try clear hV); (try clear h59); (try clear hf9); (try clear hk1); (try clear hvm); (try clear u); (try clear size); (try clear heap); (try clear hgv); (try clear htsT); (try clear hL); (try clear hflags); omega) | omega), fun x h1 h2 => (o1 x (by (first | ((try clear h2); (try clear hO); (try clear hP2); (try clear hP1); (try clear hcA); (try clear hNm); (try clear hAr); (try clear o1); (try clear e1); (try clear cA); (try clear hle); (try clear hk2); (try clear hz1); (try clear hB); (try clear hw); (try clear hvm2); (try clear ht); (try clear t); (try clear u2); (try clear hq); (try clear hsz1); (try clear hV); (try clear h59); (try clear hf9); (try clear hk1); (try clear hvm); (try clear u); (try clear size); (try clear heap); (try clear hgv); (try clear htsT); (try clear hL); (try clear hflags); omega) | omega))).trans (hS.2.1 x h1 h2), hS.2.2⟩
  refine lv_astore_n (lv' := [(3, .ref (h0 + 6558)), (2, .ref (h0 + 233)), (1, .ref h0), (0, .ref b)]) hx hb dL_law_19 rfl hl (by decide) rfl (fun ls hl => ?_)
  refine lv_iconst (v := iZ 0) hx hb dL_law_20 rfl ?_
  refine lv_istore (lv' := [(4, .int (iZ 0)), (3, .ref (h0 + 6558)), (2, .ref (h0 + 233)), (1, .ref h0), (0, .ref b)]) hx hb dL_law_21 hl (by decide) rfl (fun ls hl => ?_)
  exact lw_loop hlocks hr ⟨hfl, hx, hb, hml, hown, hts, hX, hbl, hsz0, hL, hK, hKm, hKo, hM, hEx, hNc⟩ 3079 0 _ _ μ mI (fun _ => 0) H locs ls (by decide) (by decide) (by decide) (Int.ofNat_le.mpr (Nat.le_of_ble_eq_true rfl)) (Int.ofNat_le.mpr (Nat.le_of_ble_eq_true rfl)) hV ⟨hP1, hP2, hO⟩ hS (lv_sub hl [0, 4, 3, 2, 1] rfl)

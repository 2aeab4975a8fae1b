/-! constructors over flat worlds: the cells grow one by one -/
def cw (ci : Nat) (w0 : Nat → va_E) (fs : List Value) : Nat → va_E := fun k => if k = 0 then .inr (ci, fs) else w0 k
theorem cw_n {ci : Nat} {w0 : Nat → va_E} {fs : List Value} {k : Nat} (h : k ≠ 0) : cw ci w0 fs k = w0 k := if_neg h
theorem cw_set {h0 n ci : Nat} {w0 : Nat → va_E} {fs fs' : List Value} : (fl h0 n (cw ci w0 fs)).set 0 (h0 + 0, .inr (ci, fs')) = fl h0 n (cw ci w0 fs') := by
  rw [fl_set]
  congr 1
  funext j
  by_cases h : j = 0
  · subst h; rfl
  · rw [if_neg h, cw_n h, cw_n h]
section CW
variable {p : Program} {l : Launch} {e : Env} {R : Room} {s : State} {m : MethodId} {args : Array Value} {below : List Frame} {meth : Method} {c : Code} {H : Heap} {locs : List Loc} {cells slots : Nat} {Q : State → Prop}
variable {cc : ByteArray} {pc : Nat} {ls : Array Slot} {rest : List Value} {D : va_G} {cl : List vw_C} {A : Nat → Prop} {tys : List (ClassId × FieldType)} {H0 : Heap} {h0 n : Nat} {w : Nat → va_E} {cI cII cIII : ClassId}
theorem cz_size {g : JFrame} (kk : H.size ≤ s.heap.size + cells → W p l e R s m args below meth c H locs cells slots Q g) : W p l e R s m args below meth c H locs cells slots Q g := by
  intro T hT X
  exact kk (by rw [← hT]; exact X.heapSize) T hT X
theorem cz_new (hexec : p.tables.exec = Jvm.exec) (hb : c.code = cc) {atype : ArrayType} (harr : (Cond.arrayClass (newarray.typeOf atype)).before args s = true) {cA : ClassId} (hcA : s.vm.findClass ("[" ++ (newarray.typeOf atype).toString) = some cA) (hP : va_P D cl (fl h0 n w) H) (hn0 : 0 < n) (hsz : s.heap.size + cells = h0 + n) (hS : va_S A H0 H locs) {N' : Nat} {a0 : vp_A} (hw : w n = .inl (cA, a0)) (ha : ∀ cA : ClassId, vp_cell cA a0 = arrV cA N' (fun _ => defaultValue (newarray.typeOf atype))) {nz : Int} (hN : (iZ nz).toNatClampNeg = N') (hnn : ¬ iZ nz < 0) (hbytes : N' * componentBytes (newarray.typeOf atype) ≤ 536870912) (hcells : cells + 1 ≤ R.cells) (hslots : slots + N' ≤ R.slots) (hdg : decode cc pc = .ok (.newarray atype, 2))
    (kk : ∀ H1 : Heap, va_P D cl (fl h0 (n + 1) w) H1 → va_S A H0 H1 locs → W p l e R s m args below meth c H1 locs (cells + 1) (slots + N') Q (F0 m (pc + 2) ls (.ref (h0 + n) :: rest))) : W p l e R s m args below meth c H locs cells slots Q (F0 m pc ls (.int (iZ nz) :: rest)) := by
  refine cz_size (fun hle => ?_)
  have hge := (fl_at hP (k := n - 1) (by omega)).lt
  simp only at hge
  have hH : H.size = h0 + n := by omega
  refine va_newaK hexec hb harr rfl hdg rfl hnn hN hbytes hcells hslots hH fun H1 cA1 e1 z1 o1 hAr hNm => ?_
  cases Option.some.inj (hcA.symm.trans hNm)
  refine kk H1 (fl_P fun k hk => ?_) ⟨Nat.le_trans hS.1 (by omega), fun x h1 h2 => (o1 x (by have := hS.1; omega)).trans (hS.2.1 x h1 h2), hS.2.2⟩
  by_cases h : k < n
  · exact (fl_at hP h).kept (o1 _ (by show h0 + k < h0 + n; omega))
  · obtain rfl : k = n := by omega
    rw [hw]
    show H1[h0 + k]? = some (vp_cell _ _)
    rw [ha]
    exact e1
theorem cz_mn2 (hexec : p.tables.exec = Jvm.exec) (hb : c.code = cc) {own : String} {index : Nat} (hown : s.vm.findClass own = some m.cls) (hclink : (Cond.classLink own index "[[I").before args s = true) (f1 : s.vm.findClass "[I" = some cI) (f2 : s.vm.findClass "[[I" = some cII) (hT0 : mu_T s) (hP : va_P D cl (fl h0 n w) H) (hn0 : 0 < n) (hsz : s.heap.size + cells = h0 + n) (hS : va_S A H0 H locs)
    {N M : Int} {N' M' kc ks : Nat} (eN : (iZ N).toNatClampNeg = N') (eM : (iZ M).toNatClampNeg = M') (hns : ∀ z ∈ [iZ N, iZ M], ¬ z < 0 ∧ z.toNatClampNeg * 4 ≤ 536870912) (ec : 1 + N' = kc) (es : N' + N' * M' = ks) (hcells : cells + kc ≤ R.cells) (hslots : slots + ks ≤ R.slots) (hdg : decode cc pc = .ok (.multianewarray index 2, 4))
    {g : Nat → Option Nat} (hw0 : w n = .inl (cII, N', .inr (.inr (.inr (.inr g))))) (hg : ∀ i, g i = if i < N' then some (h0 + n + 1 + i * 1) else none) (hw1 : ∀ i, i < N' → w (n + 1 + i) = .inl (cI, M', .inl (fun _ => 0)))
    (kk : ∀ H1 : Heap, va_P D cl (fl h0 (n + kc) w) H1 → va_S A H0 H1 locs → W p l e R s m args below meth c H1 locs (cells + kc) (slots + ks) Q (F0 m (pc + 4) ls (.ref (h0 + n) :: rest))) :
    W p l e R s m args below meth c H locs cells slots Q (F0 m pc ls (.int (iZ M) :: .int (iZ N) :: rest)) := by
  intro T hT X
  have hge := (fl_at hP (k := n - 1) (by omega)).lt
  simp only at hge
  have hle := X.heapSize
  rw [hT] at hle
  have hH : H.size = h0 + n := by omega
  have e1 : mu_C [iZ N, iZ M] = kc := by show 1 + (iZ N).toNatClampNeg * 1 = _; rw [eN]; omega
  have e2 : mu_S [iZ N, iZ M] = ks := by show (iZ N).toNatClampNeg + (iZ N).toNatClampNeg * (iZ M).toNatClampNeg = _; rw [eN, eM]; exact es
  refine mu2_st2 X hexec hown hclink f1 f2 hT0 hns (by rw [e1]; exact hcells) (by rw [e2]; exact hslots) (g := F0 m pc ls (.int (iZ M) :: .int (iZ N) :: rest)) rfl (by rw [hb]; exact hdg) rfl (fun T2 X2 h1 h2 h3 => ?_)
  rw [hT, hH] at h1 h2 h3
  rw [e1] at h1 X2
  rw [e2] at X2
  obtain ⟨a1, a2⟩ := h3
  rw [eN] at a1 a2
  have := kk T2.heap (fl_P fun k hk => ?_) ⟨by have := hS.1; omega, fun x hx hnA => (h2 x (by have := hS.1; omega)).trans (hS.2.1 x hx hnA), hS.2.2⟩ T2 rfl X2
  · rw [hT, hH]; exact this
  · by_cases h : k < n
    · exact (fl_at hP h).kept (h2 _ (by show h0 + k < h0 + n; omega))
    · by_cases h9 : k = n
      · subst h9
        rw [hw0]
        show T2.heap[h0 + k]? = _
        rw [a1]
        refine congrArg some (congrArg (vp_cell cII) ?_)
        refine congrArg (fun z => ((N', z) : vp_A)) ?_
        refine congrArg (fun z => Sum.inr (Sum.inr (Sum.inr (Sum.inr z)))) (funext fun i => ?_)
        rw [hg]
        rfl
      · obtain ⟨i, rfl⟩ : ∃ i, k = n + 1 + i := ⟨k - n - 1, by omega⟩
        rw [hw1 i (by omega)]
        have a3 := a2 i (by omega)
        show T2.heap[h0 + (n + 1 + i)]? = _
        have a4 : T2.heap[h0 + n + 1 + i * 1]? = _ := a3
        rw [eM] at a4
        rw [show h0 + (n + 1 + i) = h0 + n + 1 + i * 1 by omega]
        exact a4
theorem cz_mn3 (hexec : p.tables.exec = Jvm.exec) (hb : c.code = cc) {own : String} {index : Nat} (hown : s.vm.findClass own = some m.cls) (hclink : (Cond.classLink own index "[[[I").before args s = true) (f1 : s.vm.findClass "[I" = some cI) (f2 : s.vm.findClass "[[I" = some cII) (f3 : s.vm.findClass "[[[I" = some cIII) (hT0 : mu_T s) (hP : va_P D cl (fl h0 n w) H) (hn0 : 0 < n) (hsz : s.heap.size + cells = h0 + n) (hS : va_S A H0 H locs)
    {N M L : Int} {N' M' L' kc ks : Nat} (eN : (iZ N).toNatClampNeg = N') (eM : (iZ M).toNatClampNeg = M') (eL : (iZ L).toNatClampNeg = L') (hM0 : 0 < M') (hns : ∀ z ∈ [iZ N, iZ M, iZ L], ¬ z < 0 ∧ z.toNatClampNeg * 4 ≤ 536870912) (ec : 1 + N' * (1 + M') = kc) (es : N' + N' * (M' + M' * L') = ks) (hcells : cells + kc ≤ R.cells) (hslots : slots + ks ≤ R.slots) (hdg : decode cc pc = .ok (.multianewarray index 3, 4))
    {g : Nat → Option Nat} (hw0 : w n = .inl (cIII, N', .inr (.inr (.inr (.inr g))))) (hg : ∀ i, g i = if i < N' then some (h0 + n + 1 + i * (1 + M' * 1)) else none) (g2 : Nat → Nat → Option Nat) (hw1 : ∀ i, i < N' → w (n + 1 + i * (1 + M' * 1)) = .inl (cII, M', .inr (.inr (.inr (.inr (g2 i)))))) (hg2 : ∀ i j, g2 i j = if j < M' then some (h0 + n + 1 + i * (1 + M' * 1) + 1 + j * 1) else none) (hw2 : ∀ i j, i < N' → j < M' → w (n + 1 + i * (1 + M' * 1) + 1 + j) = .inl (cI, L', .inl (fun _ => 0)))
    (kk : ∀ H1 : Heap, va_P D cl (fl h0 (n + kc) w) H1 → va_S A H0 H1 locs → W p l e R s m args below meth c H1 locs (cells + kc) (slots + ks) Q (F0 m (pc + 4) ls (.ref (h0 + n) :: rest))) :
    W p l e R s m args below meth c H locs cells slots Q (F0 m pc ls (.int (iZ L) :: .int (iZ M) :: .int (iZ N) :: rest)) := by
  intro T hT X
  have hge := (fl_at hP (k := n - 1) (by omega)).lt
  simp only at hge
  have hle := X.heapSize
  rw [hT] at hle
  have hH : H.size = h0 + n := by omega
  have e1 : mu_C [iZ N, iZ M, iZ L] = kc := by show 1 + (iZ N).toNatClampNeg * (1 + (iZ M).toNatClampNeg * 1) = _; rw [eN, eM, Nat.mul_one]; exact ec
  have e2 : mu_S [iZ N, iZ M, iZ L] = ks := by show (iZ N).toNatClampNeg + (iZ N).toNatClampNeg * ((iZ M).toNatClampNeg + (iZ M).toNatClampNeg * (iZ L).toNatClampNeg) = _; rw [eN, eM, eL]; exact es
  refine mu2_st3 X hexec hown hclink f1 f2 f3 hT0 hns (by rw [e1]; exact hcells) (by rw [e2]; exact hslots) (g := F0 m pc ls (.int (iZ L) :: .int (iZ M) :: .int (iZ N) :: rest)) rfl (by rw [hb]; exact hdg) rfl (fun T2 X2 h1 h2 h3 => ?_)
  rw [hT, hH] at h1 h2 h3
  rw [e1] at h1 X2
  rw [e2] at X2
  obtain ⟨a1, a2⟩ := h3
  have eC : mu_C [iZ M, iZ L] = 1 + M' * 1 := by show 1 + (iZ M).toNatClampNeg * 1 = _; rw [eM]
  rw [eN, eC] at a1 a2
  have := kk T2.heap (fl_P fun k hk => ?_) ⟨by have := hS.1; omega, fun x hx hnA => (h2 x (by have := hS.1; omega)).trans (hS.2.1 x hx hnA), hS.2.2⟩ T2 rfl X2
  · rw [hT, hH]; exact this
  · by_cases h : k < n
    · exact (fl_at hP h).kept (h2 _ (by show h0 + k < h0 + n; omega))
    · by_cases h9 : k = n
      · subst h9
        rw [hw0]
        show T2.heap[h0 + k]? = _
        rw [a1]
        refine congrArg some (congrArg (vp_cell cIII) ?_)
        refine congrArg (fun z => ((N', z) : vp_A)) ?_
        refine congrArg (fun z => Sum.inr (Sum.inr (Sum.inr (Sum.inr z)))) (funext fun i => ?_)
        rw [hg]
      · have hd := Nat.div_add_mod (k - n - 1) (1 + M' * 1)
        have hm := Nat.mod_lt (k - n - 1) (show 0 < 1 + M' * 1 by omega)
        have hi : (k - n - 1) / (1 + M' * 1) < N' := by
          rw [Nat.div_lt_iff_lt_mul (by omega)]
          rw [Nat.mul_one]
          omega
        generalize hie : (k - n - 1) / (1 + M' * 1) = i at hd hi
        generalize hje : (k - n - 1) % (1 + M' * 1) = r at hd hm
        rw [Nat.mul_comm] at hd
        obtain ⟨b1, b2⟩ := a2 i hi
        by_cases hr : r = 0
        · obtain rfl : k = n + 1 + i * (1 + M' * 1) := by omega
          rw [hw1 i hi]
          show T2.heap[h0 + (n + 1 + i * (1 + M' * 1))]? = _
          rw [show h0 + (n + 1 + i * (1 + M' * 1)) = h0 + n + 1 + i * (1 + M' * 1) by omega, b1, eM]
          refine congrArg some (congrArg (vp_cell cII) ?_)
          refine congrArg (fun z => ((M', z) : vp_A)) ?_
          refine congrArg (fun z => Sum.inr (Sum.inr (Sum.inr (Sum.inr z)))) (funext fun j => ?_)
          rw [hg2]
          rfl
        · obtain ⟨j, rfl⟩ : ∃ j, r = j + 1 := ⟨r - 1, by omega⟩
          obtain rfl : k = n + 1 + i * (1 + M' * 1) + 1 + j := by omega
          rw [hw2 i j hi (by omega)]
          have a4 : T2.heap[h0 + n + 1 + i * (1 + M' * 1) + 1 + j * 1]? = _ := b2 j (by rw [eM]; omega)
          rw [eL] at a4
          show T2.heap[h0 + (n + 1 + i * (1 + M' * 1) + 1 + j)]? = _
          rw [show h0 + (n + 1 + i * (1 + M' * 1) + 1 + j) = h0 + n + 1 + i * (1 + M' * 1) + 1 + j * 1 by omega]
          exact a4
end CW

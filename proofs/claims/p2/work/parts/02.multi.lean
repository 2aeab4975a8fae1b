/-! new T[..][..] of any dimensions: what comes lies behind the heap, what was there stays -/
def mu_C : List Int32 → Nat
  | [] => 0
  | [_] => 1
  | n :: r => 1 + n.toNatClampNeg * mu_C r
def mu_S : List Int32 → Nat
  | [] => 0
  | [n] => n.toNatClampNeg
  | n :: r => n.toNatClampNeg + n.toNatClampNeg * mu_S r
/-- class c is an array class of as many dimensions as there are counts, over ints -/
def mu_K (s : State) : ClassId → List Int32 → Prop
  | _, [] => False
  | c, [_] => ∃ (k : Class) (cc : ClassId), s.vm.classes[c]? = some k ∧ k.kind = .array cc .int
  | c, _ :: r => ∃ (k : Class) (comp : ClassId) (t0 : FieldType), s.vm.classes[c]? = some k ∧ k.kind = .array comp t0 ∧ t0.isReference = true ∧ componentBytes t0 = 4 ∧ mu_K s comp r
def mu_ok (e : Env) (counts : List Int32) : Prop := ∀ n ∈ counts, ¬ n < 0 ∧ ¬ n.toNatClampNeg > e.platform.arrayLengthLimit ∧ ¬ n.toNatClampNeg * 4 > e.platform.maxHeapBytes
theorem mu_K_vm {s u : State} (h : u.vm = s.vm) : ∀ (cs : List Int32) (c : ClassId), mu_K s c cs → mu_K u c cs
  | [], _, q => q
  | [_], c, ⟨k, cc, h1, h2⟩ => ⟨k, cc, by rw [h]; exact h1, h2⟩
  | _ :: b :: r, c, ⟨k, comp, t0, h1, h2, h3, h4, h5⟩ => ⟨k, comp, t0, by rw [h]; exact h1, h2, h3, h4, mu_K_vm h (b :: r) comp h5⟩
section MU
variable {p : Program} {l : Launch} {e : Env} {R : Room} {s : State} {m : MethodId} {args : Array Value} {below : List Frame} {meth : Method} {c : Code} {locs : List Loc}
variable {E : CtlPost} {d : Bool} {acts : List Action}
set_option maxHeartbeats 4000000 in
theorem mu_wp (g : JFrame) : ∀ (counts : List Int32) (cA : ClassId) (T : State) (cells slots : Nat) (d : Bool) (acts : List Action), Stand p l e R s m args below meth c T locs cells slots → mu_K T cA counts → mu_ok e counts →
    cells + mu_C counts ≤ R.cells → slots + mu_S counts ≤ R.slots → ∀ (Q : Addr → Pre),
    (∀ (T2 : State) (a : Addr) (d' : Bool) (acts' : List Action), Stand p l e R s m args below meth c T2 locs (cells + mu_C counts) (slots + mu_S counts) → T2.vm = T.vm → T.heap.size ≤ T2.heap.size → (∀ x : Nat, x < T.heap.size → T2.heap[x]? = T.heap[x]?) → Q a d' acts' (T2.setTop g)) →
    wp (multianewarray.make cA counts) Q E e d acts (T.setTop g)
  | [], _, _, _, _, _, _, _, hK, _, _, _, _, _ => hK.elim
  | [n], cA, T, cells, slots, d, acts, X, ⟨k, cc, h1, h2⟩, hok, hc, hs, Q, hq => by
    obtain ⟨hn, hl, hh⟩ := hok n List.mem_cons_self
    obtain ⟨hr1, hr2⟩ := X.roomAbove (a := 1) (b := n.toNatClampNeg) hc hs
    have hk1 : (T.setTop g).vm.classes[cA]? = some k := h1
    refine Jvm.Free.Multi.wp_make1 (type := .int) hk1 h2 hn hl hh rfl rfl (by show T.heap.size < _; omega) (by show T.slotsUsed + _ ≤ _; omega) ?_
    rw [State.pushCell_setTop]
    have X2 := X.pushed (Jvm.Free.Multi.innerC cA n.toNatClampNeg (defaultValue .int))
    have e1 : (Jvm.Free.Multi.innerC cA n.toNatClampNeg (defaultValue .int)).slots.size = n.toNatClampNeg := by simp [Jvm.Free.Multi.innerC]
    rw [e1] at X2
    exact hq _ _ _ _ X2 rfl (by rw [size_pushCell]; omega) (fun x hx => State.heap_pushCell_of_lt (h := hx) _ _)
  | n :: b :: r, cA, T, cells, slots, d, acts, X, ⟨k, comp, t0, h1, h2, h3, h4, h5⟩, hok, hc, hs, Q, hq => by
    obtain ⟨hn, hl, hh⟩ := hok n List.mem_cons_self
    have hok' : mu_ok e (b :: r) := fun z hz => hok z (List.mem_cons_of_mem _ hz)
    have eC : mu_C (n :: b :: r) = 1 + n.toNatClampNeg * mu_C (b :: r) := rfl
    have eS : mu_S (n :: b :: r) = n.toNatClampNeg + n.toNatClampNeg * mu_S (b :: r) := rfl
    rw [eC] at hc
    rw [eS] at hs
    obtain ⟨hr1, hr2⟩ := X.roomAbove (a := 1) (b := n.toNatClampNeg) (by omega) (by omega)
    have hfind : ((b :: r).find? (· < 0)) = none := by
      rw [List.find?_eq_none]
      intro z hz
      simpa using (hok' z hz).1
    have hk1 : (T.setTop g).vm.classes[cA]? = some k := h1
    rw [multianewarray.make]
    simp only [wp_bind', W.ite, hn, if_false, wp_pure', W.theClass, hk1, h2, Option.some.injEq, exists_eq_left']
    refine Jvm.Free.Multi.wp_newArray hk1 h2 hl (by rw [h4]; exact hh) (Jvm.Free.Multi.refFits h3 _ (Or.inl rfl)) rfl (by show T.heap.size < _; omega) (by show T.slotsUsed + _ ≤ _; omega) ?_
    simp only [hfind]
    rw [ite_self, wp_bind', Std.Legacy.Range.forIn_eq_forIn_range']
    have hsz : ([:n.toNatClampNeg] : Std.Legacy.Range).size = n.toNatClampNeg := by simp [Std.Legacy.Range.size]
    rw [hsz]
    show wp (forIn (List.range' 0 n.toNatClampNeg 1) PUnit.unit _) _ E e d acts _
    rw [State.pushCell_setTop]
    obtain ⟨o0, ho0⟩ : ∃ z : Cell, z = { cls := cA, slots := Array.replicate n.toNatClampNeg .null, vm := .none } := ⟨_, rfl⟩
    rw [← ho0]
    have X0 := X.pushed o0
    have e0 : o0.slots.size = n.toNatClampNeg := by rw [ho0]; simp
    rw [e0] at X0
    refine wp_forIn_inv (fun rest s' => ∃ (i : Nat) (Ti : State) (oi : Cell), i ≤ n.toNatClampNeg ∧ rest = List.range' i (n.toNatClampNeg - i) ∧ s' = Ti.setTop g ∧ Stand p l e R s m args below meth c Ti locs (cells + 1 + i * mu_C (b :: r)) (slots + n.toNatClampNeg + i * mu_S (b :: r)) ∧ Ti.vm = T.vm ∧ T.heap.size < Ti.heap.size ∧ (∀ x : Nat, x < T.heap.size → Ti.heap[x]? = T.heap[x]?) ∧ Ti.heap[T.heap.size]? = some oi ∧ oi.cls = cA ∧ oi.vm = .none ∧ oi.slots.size = n.toNatClampNeg) _ _ ⟨0, T.pushCell o0, o0, Nat.zero_le _, rfl, rfl, by simpa using X0, rfl, by rw [size_pushCell]; omega, fun x hx => State.heap_pushCell_of_lt (h := hx) _ _, State.heap_pushCell_size _ _, by rw [ho0], by rw [ho0], e0⟩ ?_ ?_
    · rintro x rest s' d' acts' Q' ⟨i, Ti, oi, hi, hlr, rfl, Xi, hvi, hgi, holdi, hoi, ho1, ho2, ho3⟩ hnext
      have hlt : i < n.toNatClampNeg := by
        rcases Nat.lt_or_ge i n.toNatClampNeg with h | h
        · exact h
        · rw [show n.toNatClampNeg - i = 0 from by omega] at hlr; simp at hlr
      obtain ⟨rfl, hrest⟩ : x = i ∧ rest = List.range' (i + 1) (n.toNatClampNeg - (i + 1)) := by
        rw [show n.toNatClampNeg - i = (n.toNatClampNeg - (i + 1)) + 1 from by omega, List.range'_succ] at hlr
        exact ⟨(List.cons.inj hlr).1, (List.cons.inj hlr).2⟩
      have hmC : x * mu_C (b :: r) + mu_C (b :: r) ≤ n.toNatClampNeg * mu_C (b :: r) := by
        have := Nat.mul_le_mul_right (mu_C (b :: r)) (show x + 1 ≤ n.toNatClampNeg from hlt)
        rw [Nat.succ_mul] at this; exact this
      have hmS : x * mu_S (b :: r) + mu_S (b :: r) ≤ n.toNatClampNeg * mu_S (b :: r) := by
        have := Nat.mul_le_mul_right (mu_S (b :: r)) (show x + 1 ≤ n.toNatClampNeg from hlt)
        rw [Nat.succ_mul] at this; exact this
      simp only [wp_bind']
      refine mu_wp g (b :: r) comp Ti _ _ _ _ Xi (mu_K_vm hvi _ _ h5) hok' (by omega) (by omega) _ (fun T2 a d2 acts2 X2 hv2 hg2 hold2 => ?_)
      have hcell : T2.heap[T.heap.size]? = some oi := by rw [hold2 _ hgi]; exact hoi
      have hk2 : T2.vm.classes[cA]? = some k := by rw [hv2, hvi]; exact h1
      simp only [wp_bind', W.writeLoc, wp_pure', State.heap_setTop]
      have X3 := (X2.stored hcell x (.ref a)).dropFresh (fun z hz => by
        rw [List.mem_singleton.mp hz]
        exact X.heapGrown)
      refine ⟨oi, hcell, by rw [ho2]; simp, by rw [ho3]; exact hlt, ?_, hnext _ _ _ ⟨x + 1, T2.setCell T.heap.size (oi.setSlot x (.ref a)), oi.setSlot x (.ref a), hlt, hrest, ?_, ?_, ?_, ?_, ?_, ?_, ?_, ?_, ?_⟩⟩
      · rw [ho1, ho2]
        simp [State.fitsSlot, State.slotType?, hk2, h2, Jvm.Free.Multi.refFits h3 _ (Or.inr ⟨_, rfl⟩)]
      · rw [State.setCell_setTop]
      · have z1 : cells + 1 + (x + 1) * mu_C (b :: r) = cells + 1 + x * mu_C (b :: r) + mu_C (b :: r) := by rw [Nat.succ_mul]; omega
        have z2 : slots + n.toNatClampNeg + (x + 1) * mu_S (b :: r) = slots + n.toNatClampNeg + x * mu_S (b :: r) + mu_S (b :: r) := by rw [Nat.succ_mul]; omega
        rw [z1, z2]
        exact X3
      · show T2.vm = T.vm
        rw [hv2, hvi]
      · rw [size_setCell]; omega
      · intro y hy
        rw [State.heap_setCell_other (Nat.ne_of_gt hy), hold2 _ (by omega)]
        exact holdi y hy
      · exact State.heap_setCell_self hcell
      · exact ho1
      · exact ho2
      · simp [Cell.setSlot, ho3]
    · rintro s' d' acts' ⟨i, Ti, oi, hi, hlr, rfl, Xi, hvi, hgi, holdi, hoi, ho1, ho2, ho3⟩
      have hiN : i = n.toNatClampNeg := by
        rcases Nat.lt_or_ge i n.toNatClampNeg with h | h
        · rw [show n.toNatClampNeg - i = (n.toNatClampNeg - (i + 1)) + 1 from by omega, List.range'_succ] at hlr; cases hlr
        · omega
      subst hiN
      simp only [wp_pure']
      refine hq Ti _ _ _ ?_ hvi (Nat.le_of_lt hgi) holdi
      rw [eC, eS]
      have z1 : cells + (1 + n.toNatClampNeg * mu_C (b :: r)) = cells + 1 + n.toNatClampNeg * mu_C (b :: r) := by omega
      have z2 : slots + (n.toNatClampNeg + n.toNatClampNeg * mu_S (b :: r)) = slots + n.toNatClampNeg + n.toNatClampNeg * mu_S (b :: r) := by omega
      rw [z1, z2]
      exact Xi
end MU
theorem mu_instr {tb : Tables} [Ours tb] {e : Env} {below : List Frame} {s : State} {f : JFrame} {c : Code} (h : At s f.method c below) {i : Instr} {len : Nat} (hd : decode c.code f.pc = .ok (i, len)) {P : State → Prop}
    (hw : wpRun (tb.exec i) (fun _ s₁ _ => P s₁) (fun _ _ _ => False) e (s.setTop f)) :
    ∃ s₁ : State, P s₁ ∧ ∀ target, (∀ acts, Steps tb e below (afterInstr e len (.ok () s₁ acts)).1 target) → Steps tb e below (s.setTop f) target := by
  have hw := (wpRun_iff_run _ _ _ _ _).mp hw
  cases hr : (tb.exec i).run e (s.setTop f) with
  | ok a s₁ acts =>
    rw [hr] at hw
    refine ⟨s₁, hw, fun target ht => ?_⟩
    refine Steps.head ⟨h.running, by rw [State.curStatus?_setTop]; exact h.runnable, by rw [State.alone_setTop]; exact h.alone⟩ (h.within f) ?_
    rw [stepThread_java (State.frames_setTop' f h.top) h.plain h.code hd]
    rw [hr]
    exact ht acts
  | ctl x s₁ acts => rw [hr] at hw; cases x <;> exact hw.elim
section MV
variable {p : Program} {l : Launch} {e : Env} {R : Room} {s : State} {m : MethodId} {args : Array Value} {below : List Frame} {meth : Method} {c : Code} {H : Heap} {locs : List Loc} {cells slots : Nat} {Q : State → Prop}
variable {cc : ByteArray} {pc : Nat} {ls : Array Slot} {rest : List Value} {D : va_G} {cl : List vw_C} {A : Nat → Prop} {tys : List (ClassId × FieldType)} {ws : va_W} {H0 : Heap}
/-- the array classes that the tables know: ints, rows of ints, grids of ints -/
def mu_T (U : State) : Prop := (Cond.arrayClass .int).before #[] U = true ∧ (Cond.arrayOver (.array .int)).before #[] U = true ∧ (Cond.arrayOver (.array (.array .int))).before #[] U = true
theorem mu_K1 (h : mu_T s) {n : Int32} : ∃ cA, s.vm.findClass "[I" = some cA ∧ mu_K s cA [n] := by
  obtain ⟨comp', kC, cc, h1, h2, h3⟩ := Cond.arrayClass_spec h.1
  exact ⟨comp', h1, kC, cc, h2, h3⟩
theorem mu_K2 (h : mu_T s) {n k : Int32} : ∃ cA, s.vm.findClass "[[I" = some cA ∧ mu_K s cA [n, k] := by
  obtain ⟨comp, cA, kA, h1, h2, h3, h4⟩ := Cond.arrayOver_specA h.2.1
  obtain ⟨c1, h5, h6⟩ := mu_K1 (n := k) h
  cases Option.some.inj (h1.symm.trans h5)
  exact ⟨cA, h4, kA, comp, _, h2, h3, rfl, rfl, h6⟩
theorem mu_K3 (h : mu_T s) {n k j : Int32} : ∃ cA, s.vm.findClass "[[[I" = some cA ∧ mu_K s cA [n, k, j] := by
  obtain ⟨comp, cA, kA, h1, h2, h3, h4⟩ := Cond.arrayOver_specA h.2.2
  obtain ⟨c1, h5, h6⟩ := mu_K2 (n := k) (k := j) h
  cases Option.some.inj (h1.symm.trans h5)
  exact ⟨cA, h4, kA, comp, _, h2, h3, rfl, rfl, h6⟩
theorem mu_oks (hadm : l.admits e) {cs : List Int32} (h : ∀ n ∈ cs, ¬ n < 0 ∧ n.toNatClampNeg * 4 ≤ 536870912) : mu_ok e cs := fun n hn => by
  obtain ⟨h1, h2⟩ := h n hn
  refine ⟨h1, ?_, ?_⟩
  · rw [Launch.admits_arrayLengthLimit hadm]; omega
  · rw [Launch.admits_maxHeapBytes hadm]; omega
set_option maxHeartbeats 4000000 in
theorem mu_st2 {T : State} (X : Stand p l e R s m args below meth c T locs cells slots) (hexec : p.tables.exec = Jvm.exec) {own : String} {index : Nat} (hown : s.vm.findClass own = some m.cls) (hclink : (Cond.classLink own index "[[I").before args s = true) (hT0 : mu_T s)
    {n k : Int32} (hns : ∀ z ∈ [n, k], ¬ z < 0 ∧ z.toNatClampNeg * 4 ≤ 536870912) (hcells : cells + mu_C [n, k] ≤ R.cells) (hslots : slots + mu_S [n, k] ≤ R.slots) {g : JFrame} (hg : g.method = m) (hdg : decode c.code g.pc = .ok (.multianewarray index 2, 4)) (hstack : g.stack = .int k :: .int n :: rest) {Qf : State → Prop}
    (kk : ∀ (q : Nat) (T2 : State), Stand p l e R s m args below meth c T2 locs (cells + mu_C [n, k]) (slots + mu_S [n, k]) → T.heap.size ≤ T2.heap.size → (∀ x : Nat, x < T.heap.size → T2.heap[x]? = T.heap[x]?) → ∃ t, Steps p.tables e below (T2.setTop { g with pc := g.pc + 4, stack := .ref q :: rest }) t ∧ Qf t) :
    ∃ t, Steps p.tables e below (T.setTop g) t ∧ Qf t := by
  subst hg
  have hpl : e.platform.magicAccessors = ({} : Platform).magicAccessors := by rw [X.admits.platform]
  obtain ⟨cA, hfA, hKA⟩ := mu_K2 (n := n) (k := k) hT0
  obtain ⟨c0, hfc0, hcl⟩ := Cond.classLink_spec hown hclink e.platform hpl
  cases Option.some.inj (hfA.symm.trans hfc0)
  obtain ⟨hg₁, hwarm₁, hready₁⟩ := State.classEntry (e := e) X.warmed hcl
  generalize T.vm.noted g.method.cls index (.cls cA) = vm₁ at hg₁ hwarm₁ hready₁
  have X₁ := X.noted hwarm₁
  have hKA1 : mu_K (T.setVm vm₁) cA [n, k] := by
    obtain ⟨kA, comp, t0, g1, g2, g3, g4, kC, c2, g5, g6⟩ := hKA
    obtain ⟨kA', j1, j2⟩ := hwarm₁.alike.2.2 _ _ g1
    obtain ⟨kC', j3, j4⟩ := hwarm₁.alike.2.2 _ _ g5
    exact ⟨kA', comp, t0, j1, by rw [j2]; exact g2, g3, g4, kC', c2, j3, by rw [j4]; exact g6⟩
  suffices h : ∃ T2 : State, ∃ a : Addr, Stand p l e R s g.method args below meth c T2 locs (cells + mu_C [n, k]) (slots + mu_S [n, k]) ∧ T.heap.size ≤ T2.heap.size ∧ (∀ x : Nat, x < T.heap.size → T2.heap[x]? = T.heap[x]?) ∧ ∀ target, Steps p.tables e below (T2.setTop { g with pc := g.pc + 4, stack := .ref a :: rest }) target → Steps p.tables e below (T.setTop g) target by
    obtain ⟨T2, a, X2, h1, h2, h3⟩ := h
    obtain ⟨t, a1, b1⟩ := kk a T2 X2 h1 h2
    exact ⟨t, h3 t a1, b1⟩
  obtain ⟨s₁, ⟨T2, a, rfl, X2, h1, h2⟩, h3⟩ := mu_instr (tb := p.tables) (f := g) X.here hdg (P := fun s₁ => ∃ (T2 : State) (a : Addr), s₁ = T2.setTop { g with stack := .ref a :: rest } ∧ Stand p l e R s g.method args below meth c T2 locs (cells + mu_C [n, k]) (slots + mu_S [n, k]) ∧ T.heap.size ≤ T2.heap.size ∧ (∀ x : Nat, x < T.heap.size → T2.heap[x]? = T.heap[x]?)) (by
    rw [hexec]
    show wpRun (Op.multianewarray.sem index 2) _ _ e (T.setTop g)
    simp only [wpRun, multianewarray.sem, wp_bind', W.resolveClassAt_links (State.method?_setTop g X.here.top) hg₁]
    rw [W.popN, if_neg (by decide)]
    refine ⟨g, State.topJava?_setTop' (s := T.setVm vm₁) g X.here.top, [.int n, .int k], rest, rfl, hstack, ?_⟩
    simp only [List.mapM_cons, List.mapM_nil, wp_bind', wp_pure']
    have eS : ((T.setTop g).setVm vm₁).setTop { g with stack := rest } = (T.setVm vm₁).setTop { g with stack := rest } := by
      show ((T.setVm vm₁).setTop g).setTop _ = _
      rw [State.setTop_setTop]
    rw [eS]
    refine mu_wp { g with stack := rest } [n, k] cA (T.setVm vm₁) cells slots _ _ X₁ hKA1 (mu_oks X.admits hns) hcells hslots _ (fun T2 a d' acts' X2 hv hsz hold => ?_)
    simp only [wp_bind', W.mark, W.pushRef, State.topJava?_setTop' _ X2.here.top, Option.some.injEq, exists_eq_left', State.setTop_setTop]
    exact ⟨T2, a, rfl, X2, hsz, hold⟩)
  refine ⟨T2, a, X2, h1, h2, fun target ht => h3 target (fun acts => ?_)⟩
  rw [afterInstr_ok]
  exact ht
set_option maxHeartbeats 4000000 in
theorem mu_st3 {T : State} (X : Stand p l e R s m args below meth c T locs cells slots) (hexec : p.tables.exec = Jvm.exec) {own : String} {index : Nat} (hown : s.vm.findClass own = some m.cls) (hclink : (Cond.classLink own index "[[[I").before args s = true) (hT0 : mu_T s)
    {n k j : Int32} (hns : ∀ z ∈ [n, k, j], ¬ z < 0 ∧ z.toNatClampNeg * 4 ≤ 536870912) (hcells : cells + mu_C [n, k, j] ≤ R.cells) (hslots : slots + mu_S [n, k, j] ≤ R.slots) {g : JFrame} (hg : g.method = m) (hdg : decode c.code g.pc = .ok (.multianewarray index 3, 4)) (hstack : g.stack = .int j :: .int k :: .int n :: rest) {Qf : State → Prop}
    (kk : ∀ (q : Nat) (T2 : State), Stand p l e R s m args below meth c T2 locs (cells + mu_C [n, k, j]) (slots + mu_S [n, k, j]) → T.heap.size ≤ T2.heap.size → (∀ x : Nat, x < T.heap.size → T2.heap[x]? = T.heap[x]?) → ∃ t, Steps p.tables e below (T2.setTop { g with pc := g.pc + 4, stack := .ref q :: rest }) t ∧ Qf t) :
    ∃ t, Steps p.tables e below (T.setTop g) t ∧ Qf t := by
  subst hg
  have hpl : e.platform.magicAccessors = ({} : Platform).magicAccessors := by rw [X.admits.platform]
  obtain ⟨cA, hfA, hKA⟩ := mu_K3 (n := n) (k := k) (j := j) hT0
  obtain ⟨c0, hfc0, hcl⟩ := Cond.classLink_spec hown hclink e.platform hpl
  cases Option.some.inj (hfA.symm.trans hfc0)
  obtain ⟨hg₁, hwarm₁, hready₁⟩ := State.classEntry (e := e) X.warmed hcl
  generalize T.vm.noted g.method.cls index (.cls cA) = vm₁ at hg₁ hwarm₁ hready₁
  have X₁ := X.noted hwarm₁
  have hKA1 : mu_K (T.setVm vm₁) cA [n, k, j] := by
    obtain ⟨kA, comp, t0, g1, g2, g3, g4, kB, comp2, t2, y1, y2, y3, y4, kC, c2, g5, g6⟩ := hKA
    obtain ⟨kA', j1, j2⟩ := hwarm₁.alike.2.2 _ _ g1
    obtain ⟨kB', j5, j6⟩ := hwarm₁.alike.2.2 _ _ y1
    obtain ⟨kC', j3, j4⟩ := hwarm₁.alike.2.2 _ _ g5
    exact ⟨kA', comp, t0, j1, by rw [j2]; exact g2, g3, g4, kB', comp2, t2, j5, by rw [j6]; exact y2, y3, y4, kC', c2, j3, by rw [j4]; exact g6⟩
  suffices h : ∃ T2 : State, ∃ a : Addr, Stand p l e R s g.method args below meth c T2 locs (cells + mu_C [n, k, j]) (slots + mu_S [n, k, j]) ∧ T.heap.size ≤ T2.heap.size ∧ (∀ x : Nat, x < T.heap.size → T2.heap[x]? = T.heap[x]?) ∧ ∀ target, Steps p.tables e below (T2.setTop { g with pc := g.pc + 4, stack := .ref a :: rest }) target → Steps p.tables e below (T.setTop g) target by
    obtain ⟨T2, a, X2, h1, h2, h3⟩ := h
    obtain ⟨t, a1, b1⟩ := kk a T2 X2 h1 h2
    exact ⟨t, h3 t a1, b1⟩
  obtain ⟨s₁, ⟨T2, a, rfl, X2, h1, h2⟩, h3⟩ := mu_instr (tb := p.tables) (f := g) X.here hdg (P := fun s₁ => ∃ (T2 : State) (a : Addr), s₁ = T2.setTop { g with stack := .ref a :: rest } ∧ Stand p l e R s g.method args below meth c T2 locs (cells + mu_C [n, k, j]) (slots + mu_S [n, k, j]) ∧ T.heap.size ≤ T2.heap.size ∧ (∀ x : Nat, x < T.heap.size → T2.heap[x]? = T.heap[x]?)) (by
    rw [hexec]
    show wpRun (Op.multianewarray.sem index 3) _ _ e (T.setTop g)
    simp only [wpRun, multianewarray.sem, wp_bind', W.resolveClassAt_links (State.method?_setTop g X.here.top) hg₁]
    rw [W.popN, if_neg (by decide)]
    refine ⟨g, State.topJava?_setTop' (s := T.setVm vm₁) g X.here.top, [.int n, .int k, .int j], rest, rfl, hstack, ?_⟩
    simp only [List.mapM_cons, List.mapM_nil, wp_bind', wp_pure']
    have eS : ((T.setTop g).setVm vm₁).setTop { g with stack := rest } = (T.setVm vm₁).setTop { g with stack := rest } := by
      show ((T.setVm vm₁).setTop g).setTop _ = _
      rw [State.setTop_setTop]
    rw [eS]
    refine mu_wp { g with stack := rest } [n, k, j] cA (T.setVm vm₁) cells slots _ _ X₁ hKA1 (mu_oks X.admits hns) hcells hslots _ (fun T2 a d' acts' X2 hv hsz hold => ?_)
    simp only [wp_bind', W.mark, W.pushRef, State.topJava?_setTop' _ X2.here.top, Option.some.injEq, exists_eq_left', State.setTop_setTop]
    exact ⟨T2, a, rfl, X2, hsz, hold⟩)
  refine ⟨T2, a, X2, h1, h2, fun target ht => h3 target (fun acts => ?_)⟩
  rw [afterInstr_ok]
  exact ht

/-- in a world: what was there stays; nothing is said of the new ones -/
theorem va_mnX2 (hexec : p.tables.exec = Jvm.exec) (hb : c.code = cc) {own : String} {index : Nat} (hown : s.vm.findClass own = some m.cls) (hclink : (Cond.classLink own index "[[I").before args s = true) (hT0 : mu_T s) (hP : va_P D cl ws H) (hS : va_S A H0 H locs)
    {n k : Int32} {kc ks : Nat} (hns : ∀ z ∈ [n, k], ¬ z < 0 ∧ z.toNatClampNeg * 4 ≤ 536870912) (ec : mu_C [n, k] = kc) (es : mu_S [n, k] = ks) (hcells : cells + kc ≤ R.cells) (hslots : slots + ks ≤ R.slots) (hdg : decode cc pc = .ok (.multianewarray index 2, 4))
    (kk : ∀ (q : Nat) (H1 : Heap), va_P D cl ws H1 → va_S A H0 H1 locs → W p l e R s m args below meth c H1 locs (cells + kc) (slots + ks) Q (F0 m (pc + 4) ls (.ref q :: rest))) :
    W p l e R s m args below meth c H locs cells slots Q (F0 m pc ls (.int k :: .int n :: rest)) := by
  intro T hT X
  subst ec; subst es
  refine mu_st2 X hexec hown hclink hT0 hns hcells hslots (g := F0 m pc ls (.int k :: .int n :: rest)) rfl (by rw [hb]; exact hdg) rfl (fun q T2 X2 h1 h2 => ?_)
  rw [hT] at h1 h2
  exact kk q T2.heap (hP.kept (fun k9 x hx => h2 _ ((hP k9 x hx).lt))) ⟨Nat.le_trans hS.1 h1, fun x hx hnA => (h2 x (Nat.lt_of_lt_of_le hx hS.1)).trans (hS.2.1 x hx hnA), hS.2.2⟩ T2 rfl X2

/-- in a world: what was there stays; nothing is said of the new ones -/
theorem va_mnX3 (hexec : p.tables.exec = Jvm.exec) (hb : c.code = cc) {own : String} {index : Nat} (hown : s.vm.findClass own = some m.cls) (hclink : (Cond.classLink own index "[[[I").before args s = true) (hT0 : mu_T s) (hP : va_P D cl ws H) (hS : va_S A H0 H locs)
    {n k j : Int32} {kc ks : Nat} (hns : ∀ z ∈ [n, k, j], ¬ z < 0 ∧ z.toNatClampNeg * 4 ≤ 536870912) (ec : mu_C [n, k, j] = kc) (es : mu_S [n, k, j] = ks) (hcells : cells + kc ≤ R.cells) (hslots : slots + ks ≤ R.slots) (hdg : decode cc pc = .ok (.multianewarray index 3, 4))
    (kk : ∀ (q : Nat) (H1 : Heap), va_P D cl ws H1 → va_S A H0 H1 locs → W p l e R s m args below meth c H1 locs (cells + kc) (slots + ks) Q (F0 m (pc + 4) ls (.ref q :: rest))) :
    W p l e R s m args below meth c H locs cells slots Q (F0 m pc ls (.int j :: .int k :: .int n :: rest)) := by
  intro T hT X
  subst ec; subst es
  refine mu_st3 X hexec hown hclink hT0 hns hcells hslots (g := F0 m pc ls (.int j :: .int k :: .int n :: rest)) rfl (by rw [hb]; exact hdg) rfl (fun q T2 X2 h1 h2 => ?_)
  rw [hT] at h1 h2
  exact kk q T2.heap (hP.kept (fun k9 x hx => h2 _ ((hP k9 x hx).lt))) ⟨Nat.le_trans hS.1 h1, fun x hx hnA => (h2 x (Nat.lt_of_lt_of_le hx hS.1)).trans (hS.2.1 x hx hnA), hS.2.2⟩ T2 rfl X2
theorem mu_arr {cA : ClassId} (h : mu_T s) (f : s.vm.findClass ("[" ++ (FieldType.array .int).toString) = some cA) : ArrOfT s cA (.array .int) := by
  obtain ⟨comp, c2, kA, h1, h2, h3, h4⟩ := Cond.arrayOver_specA h.2.1
  cases Option.some.inj (h4.symm.trans f)
  exact fun n z => ⟨fun x => by simp [arrV], kA, h2, comp, h3⟩
theorem mu_arr1 {cA : ClassId} (h : mu_T s) (f : s.vm.findClass (FieldType.array .int).toString = some cA) : ArrOfT s cA .int := by
  obtain ⟨c1, kC, cc, h1, h2, h3⟩ := Cond.arrayClass_spec h.1
  cases Option.some.inj (h1.symm.trans f)
  exact fun n z => ⟨fun x => by simp [arrV], kC, h2, cc, h3⟩
theorem mu_outer (c : ClassId) (N h0 : Nat) : ∀ i : Nat, Jvm.Free.Multi.outerC c N h0 i = arrV c N (fun j => va_rf (if j < i then some (h0 + 1 + j) else none))
  | 0 => by
    show ({ cls := c, slots := Array.replicate N .null, vm := .none } : Cell) = _
    rw [arrV_new]
    exact congrArg (arrV c N) (funext fun j => by simp [va_rf])
  | i + 1 => by
    show (Jvm.Free.Multi.outerC c N h0 i).setSlot i (.ref (h0 + 1 + i)) = _
    rw [mu_outer c N h0 i, arrV_store]
    refine congrArg (arrV c N) (funext fun j => ?_)
    by_cases e : j = i
    · subst e; simp [updV, va_rf]
    · by_cases h : j < i
      · simp [updV, e, h, Nat.lt_succ_of_lt h]
      · simp [updV, e, h, show ¬ j < i + 1 by omega]

set_option maxHeartbeats 4000000 in
/-- in a world: the outer array a place, its first row another one -/
theorem va_mnC2 (hexec : p.tables.exec = Jvm.exec) (hb : c.code = cc) {own : String} {index : Nat} (hown : s.vm.findClass own = some m.cls) (hclink : (Cond.classLink own index "[[I").before args s = true) (hT0 : mu_T s) (hK : va_K D cl tys s) (hP : va_P D cl ws H) (hD : va_D A ws) (hS : va_S A H0 H locs) (hA : ∀ q, H0.size ≤ q → A q)
    {n k : Int32} {N' K' : Nat} (hn : ¬ n < 0) (hk : ¬ k < 0) (eN : n.toNatClampNeg = N') (eK : k.toNatClampNeg = K') (h0 : 0 < N') (hb1 : N' * 4 ≤ 536870912) (hb2 : K' * 4 ≤ 536870912) (hcells : cells + (1 + N') ≤ R.cells) (hslots : slots + (N' + N' * K') ≤ R.slots) (hdg : decode cc pc = .ok (.multianewarray index 2, 4))
    (kk : ∀ (q : Nat) (cA cB : ClassId) (H1 : Heap), va_K D cl (tys ++ [(cA, .array .int), (cB, .int)]) s → va_P D cl (ws ++ [(q, .inl (cA, N', .inr (.inr (.inr (.inr (fun i => if i < N' then some (q + 1 + i) else none)))))), (q + 1, .inl (cB, K', .inl (fun _ => 0)))]) H1 → va_D A (ws ++ [(q, .inl (cA, N', .inr (.inr (.inr (.inr (fun i => if i < N' then some (q + 1 + i) else none)))))), (q + 1, .inl (cB, K', .inl (fun _ => 0)))]) → va_S A H0 H1 locs →
      W p l e R s m args below meth c H1 locs (cells + 1 + N') (slots + N' + N' * K') Q (F0 m (pc + 4) ls (.ref q :: rest))) :
    W p l e R s m args below meth c H locs cells slots Q (F0 m pc ls (.int k :: .int n :: rest)) := by
  subst eN; subst eK
  intro T hT Xs
  obtain ⟨vm₁, cA, cB, -, fA, fC, hO, hI, X', step⟩ := Xs.multianewarray2F hexec hown hclink hT0.2.1 hT0.1 (g := F0 m pc ls (.int k :: .int n :: rest)) rfl (by rw [hb]; exact hdg) rfl hn hk hb1 (by show k.toNatClampNeg * 4 ≤ _; exact hb2) (by omega) rfl rfl hcells hslots
  generalize hF : Jvm.Free.Multi.fill (T.setVm vm₁) cA cB n.toNatClampNeg k.toNatClampNeg (defaultValue .int) n.toNatClampNeg = F at X' step
  have hTh : (T.setVm vm₁).heap = H := hT
  obtain ⟨f1, f2, -, -⟩ := Jvm.Free.Multi.fill_facts (T.setVm vm₁) cA cB n.toNatClampNeg k.toNatClampNeg (defaultValue .int) n.toNatClampNeg
  rw [hF, hTh] at f1 f2
  have hold : ∀ x : Nat, x < H.size → F.heap[x]? = H[x]? := fun x hx => by
    have := Jvm.Free.Multi.fill_old (T.setVm vm₁) cA cB n.toNatClampNeg k.toNatClampNeg (defaultValue .int) (a := x) (by rw [hTh]; exact hx) n.toNatClampNeg
    rw [hF, hTh] at this
    exact this
  have hrow : F.heap[H.size + 1]? = some (vp_cell cB (k.toNatClampNeg, .inl (fun _ => 0))) := by
    have := Jvm.Free.Multi.fill_inner (T.setVm vm₁) cA cB n.toNatClampNeg k.toNatClampNeg (defaultValue .int) n.toNatClampNeg 0 h0
    rw [hF, hTh] at this
    refine this.trans (congrArg some ?_)
    show ({ cls := cB, slots := Array.replicate k.toNatClampNeg (.int 0), vm := .none } : Cell) = _
    rw [vp_cell_i]
    exact arrV_new cB k.toNatClampNeg (.int 0)
  have hout : Jvm.Free.Multi.outerC cA n.toNatClampNeg H.size n.toNatClampNeg = vp_cell cA (n.toNatClampNeg, .inr (.inr (.inr (.inr (fun i => if i < n.toNatClampNeg then some (H.size + 1 + i) else none))))) := by
    rw [vp_cell_q]
    exact mu_outer cA n.toNatClampNeg H.size n.toNatClampNeg
  rw [hout] at f2
  have hP0 : va_P D cl ws F.heap := hP.kept (fun k9 x hx => hold x.1 ((hP k9 x hx).lt))
  have hP1 := hP0.app (w2 := [(H.size, .inl (cA, n.toNatClampNeg, .inr (.inr (.inr (.inr (fun i => if i < n.toNatClampNeg then some (H.size + 1 + i) else none)))))), (H.size + 1, .inl (cB, k.toNatClampNeg, .inl (fun _ => 0)))]) (fun k9 x hx => by
    match k9, hx with
    | 0, hx => cases hx; exact f2
    | 1, hx => cases hx; exact hrow
    | k9 + 2, hx => simp at hx)
  have hD1 : va_D A (ws ++ [(H.size, .inl (cA, n.toNatClampNeg, .inr (.inr (.inr (.inr (fun i => if i < n.toNatClampNeg then some (H.size + 1 + i) else none)))))), (H.size + 1, .inl (cB, k.toNatClampNeg, .inl (fun _ => 0)))]) := by
    have hlt : ∀ (k9 : Nat) (x : Nat × va_E), ws[k9]? = some x → x.1 < H.size := fun k9 x hx => (hP k9 x hx).lt
    refine ⟨fun i j x y hi hj hxy => ?_, fun k9 x hx => ?_⟩
    · by_cases h1 : i < ws.length <;> by_cases h2 : j < ws.length
      · rw [List.getElem?_append_left h1] at hi
        rw [List.getElem?_append_left h2] at hj
        exact hD.1 i j x y hi hj hxy
      · rw [List.getElem?_append_left h1] at hi
        rw [List.getElem?_append_right (by omega)] at hj
        have a1 := hlt _ _ hi
        match hz : j - ws.length, hj with
        | 0, hj => cases hj; simp at hxy; omega
        | 1, hj => cases hj; simp at hxy; omega
        | z + 2, hj => simp at hj
      · rw [List.getElem?_append_right (by omega)] at hi
        rw [List.getElem?_append_left h2] at hj
        have a1 := hlt _ _ hj
        match hz : i - ws.length, hi with
        | 0, hi => cases hi; simp at hxy; omega
        | 1, hi => cases hi; simp at hxy; omega
        | z + 2, hi => simp at hi
      · rw [List.getElem?_append_right (by omega)] at hi hj
        match hz : i - ws.length, hi, hw : j - ws.length, hj with
        | 0, _, 0, _ => omega
        | 1, _, 1, _ => omega
        | 0, hi, 1, hj => cases hi; cases hj; simp at hxy
        | 1, hi, 0, hj => cases hi; cases hj; simp at hxy
        | z + 2, hi, _, _ => simp at hi
        | 0, _, w + 2, hj => simp at hj
        | 1, _, w + 2, hj => simp at hj
    · by_cases h1 : k9 < ws.length
      · rw [List.getElem?_append_left h1] at hx
        exact hD.2 k9 x hx
      · rw [List.getElem?_append_right (by omega)] at hx
        match hz : k9 - ws.length, hx with
        | 0, hx => cases hx; exact hA _ hS.1
        | 1, hx => cases hx; exact hA _ (Nat.le_succ_of_le hS.1)
        | z + 2, hx => simp at hx
  have hK1 : va_K D cl (tys ++ [(cA, .array .int), (cB, .int)]) s := hK.app ⟨hK.1, fun k9 x hx => by
    match k9, hx with
    | 0, hx => cases hx; exact ⟨mu_arr (cA := cA) hT0 fA, fA⟩
    | 1, hx => cases hx; exact ⟨mu_arr1 (cA := cB) hT0 fC, fC⟩
    | k9 + 2, hx => simp at hx⟩
  obtain ⟨t, a1, b1⟩ := kk H.size cA cB F.heap hK1 hP1 hD1 ⟨by rw [f1]; have := hS.1; omega, fun x hx hnA => (hold x (Nat.lt_of_lt_of_le hx hS.1)).trans (hS.2.1 x hx hnA), hS.2.2⟩ F rfl X'
  refine ⟨t, step t ?_, b1⟩
  rw [hT]
  exact a1
end MV

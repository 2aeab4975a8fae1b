/-! new T[..][..] of any dimensions, with what the new cells hold; they lie one behind another from the heap's end on -/
def mu_At (H : Heap) : List ClassId → List Int32 → Nat → Prop
  | c :: _, [n], a => H[a]? = some (vp_cell c (n.toNatClampNeg, .inl (fun _ => 0)))
  | c :: cs, n :: b :: r, a => H[a]? = some (vp_cell c (n.toNatClampNeg, .inr (.inr (.inr (.inr (fun i => if i < n.toNatClampNeg then some (a + 1 + i * mu_C (b :: r)) else none)))))) ∧ ∀ i, i < n.toNatClampNeg → mu_At H cs (b :: r) (a + 1 + i * mu_C (b :: r))
  | _, _, _ => False
def mu_Kc (s : State) : List ClassId → List Int32 → Prop
  | [c], [_] => ∃ (k : Class) (cc : ClassId), s.vm.classes[c]? = some k ∧ k.kind = .array cc .int
  | c :: c2 :: cs, _ :: b :: r => ∃ (k : Class) (t0 : FieldType), s.vm.classes[c]? = some k ∧ k.kind = .array c2 t0 ∧ t0.isReference = true ∧ componentBytes t0 = 4 ∧ mu_Kc s (c2 :: cs) (b :: r)
  | _, _ => False
theorem mu_Kc_vm {s u : State} (h : ∀ (c : ClassId) (k : Class), s.vm.classes[c]? = some k → ∃ k', u.vm.classes[c]? = some k' ∧ k'.kind = k.kind) : ∀ (ids : List ClassId) (cs : List Int32), mu_Kc s ids cs → mu_Kc u ids cs
  | [c], [_], ⟨k, cc, h1, h2⟩ => by
    obtain ⟨k', h3, h4⟩ := h c k h1
    exact ⟨k', cc, h3, by rw [h4]; exact h2⟩
  | c :: c2 :: ids, _ :: b :: r, ⟨k, t0, h1, h2, h3, h4, h5⟩ => by
    obtain ⟨k', h6, h7⟩ := h c k h1
    exact ⟨k', t0, h6, by rw [h7]; exact h2, h3, h4, mu_Kc_vm h (c2 :: ids) (b :: r) h5⟩
theorem mu_At_kept {H H1 : Heap} : ∀ (ids : List ClassId) (cs : List Int32) (a : Nat), mu_At H ids cs a → (∀ x : Nat, a ≤ x → x < a + mu_C cs → H1[x]? = H[x]?) → mu_At H1 ids cs a
  | c :: ids, [n], a, h, hk => by
    show H1[a]? = _
    rw [hk a (Nat.le_refl _) (by show a < a + 1; omega)]
    exact h
  | c :: ids, n :: b :: r, a, ⟨h1, h2⟩, hk => by
    have eC : mu_C (n :: b :: r) = 1 + n.toNatClampNeg * mu_C (b :: r) := rfl
    rw [eC] at hk
    refine ⟨by rw [hk a (Nat.le_refl _) (by omega)]; exact h1, fun i hi => mu_At_kept ids (b :: r) _ (h2 i hi) (fun x hx1 hx2 => hk x (by omega) ?_)⟩
    have h3 := Nat.mul_le_mul_right (mu_C (b :: r)) (show i + 1 ≤ n.toNatClampNeg from hi)
    rw [Nat.succ_mul] at h3
    omega
section MU
variable {p : Program} {l : Launch} {e : Env} {R : Room} {s : State} {m : MethodId} {args : Array Value} {below : List Frame} {meth : Method} {c : Code} {locs : List Loc}
variable {E : CtlPost} {d : Bool} {acts : List Action}
theorem mu_arr0 (c : ClassId) (N b C : Nat) : ({ cls := c, slots := Array.replicate N .null, vm := .none } : Cell) = arrV c N (fun j => va_rf (if j < 0 then some (b + j * C) else none)) := by
  rw [arrV_new]
  exact congrArg (arrV c N) (funext fun j => by simp [va_rf])
theorem mu_arrS (c : ClassId) (N b C i : Nat) : (arrV c N (fun j => va_rf (if j < i then some (b + j * C) else none))).setSlot i (.ref (b + i * C)) = arrV c N (fun j => va_rf (if j < i + 1 then some (b + j * C) else none)) := by
  rw [arrV_store]
  refine congrArg (arrV c N) (funext fun j => ?_)
  by_cases e : j = i
  · subst e; simp [updV, va_rf]
  · by_cases h : j < i
    · simp [updV, e, h, Nat.lt_succ_of_lt h]
    · simp [updV, e, h, show ¬ j < i + 1 by omega]
set_option maxHeartbeats 4000000 in
theorem mu2_wp (g : JFrame) : ∀ (counts : List Int32) (ids : List ClassId) (cA : ClassId) (T : State) (cells slots : Nat) (d : Bool) (acts : List Action), Stand p l e R s m args below meth c T locs cells slots → mu_Kc T (cA :: ids) counts → mu_ok e counts →
    cells + mu_C counts ≤ R.cells → slots + mu_S counts ≤ R.slots → ∀ (Q : Addr → Pre),
    (∀ (T2 : State) (d' : Bool) (acts' : List Action), Stand p l e R s m args below meth c T2 locs (cells + mu_C counts) (slots + mu_S counts) → T2.vm = T.vm → T2.heap.size = T.heap.size + mu_C counts → (∀ x : Nat, x < T.heap.size → T2.heap[x]? = T.heap[x]?) → mu_At T2.heap (cA :: ids) counts T.heap.size → Q T.heap.size d' acts' (T2.setTop g)) →
    wp (multianewarray.make cA counts) Q E e d acts (T.setTop g)
  | [], _, _, _, _, _, _, _, _, hK, _, _, _, _, _ => by simp [mu_Kc] at hK
  | [n], c2 :: ids, cA, T, cells, slots, d, acts, X, hK, hok, hc, hs, Q, hq => by simp [mu_Kc] at hK
  | [n], [], cA, T, cells, slots, d, acts, X, ⟨k, cc, h1, h2⟩, hok, hc, hs, Q, hq => by
    obtain ⟨hn, hl, hh⟩ := hok n List.mem_cons_self
    obtain ⟨hr1, hr2⟩ := X.roomAbove (a := 1) (b := n.toNatClampNeg) hc hs
    have hk1 : (T.setTop g).vm.classes[cA]? = some k := h1
    refine Jvm.Free.Multi.wp_make1 (type := .int) hk1 h2 hn hl hh rfl rfl (by show T.heap.size < _; omega) (by show T.slotsUsed + _ ≤ _; omega) ?_
    rw [State.pushCell_setTop]
    have X2 := X.pushed (Jvm.Free.Multi.innerC cA n.toNatClampNeg (defaultValue .int))
    have e1 : (Jvm.Free.Multi.innerC cA n.toNatClampNeg (defaultValue .int)).slots.size = n.toNatClampNeg := by simp [Jvm.Free.Multi.innerC]
    rw [e1] at X2
    refine hq _ _ _ X2 rfl (by rw [size_pushCell]; rfl) (fun x hx => State.heap_pushCell_of_lt (h := hx) _ _) ?_
    show (T.pushCell (Jvm.Free.Multi.innerC cA n.toNatClampNeg (defaultValue .int))).heap[T.heap.size]? = _
    rw [State.heap_pushCell_size]
    refine congrArg some ?_
    show ({ cls := cA, slots := Array.replicate n.toNatClampNeg (.int 0), vm := .none } : Cell) = _
    rw [vp_cell_i]
    exact arrV_new cA n.toNatClampNeg (.int 0)
  | n :: b :: r, [], cA, T, cells, slots, d, acts, X, hK, hok, hc, hs, Q, hq => by simp [mu_Kc] at hK
  | n :: b :: r, comp :: ids, cA, T, cells, slots, d, acts, X, ⟨k, t0, h1, h2, h3, h4, h5⟩, hok, hc, hs, Q, hq => by
    obtain ⟨hn, hl, hh⟩ := hok n List.mem_cons_self
    have hok' : mu_ok e (b :: r) := fun z hz => hok z (List.mem_cons_of_mem _ hz)
    have eC : mu_C (n :: b :: r) = 1 + n.toNatClampNeg * mu_C (b :: r) := rfl
    have eS : mu_S (n :: b :: r) = n.toNatClampNeg + n.toNatClampNeg * mu_S (b :: r) := rfl
    rw [eC] at hc
    rw [eS] at hs
    obtain ⟨hr1, hr2⟩ := X.roomAbove (a := 1) (b := n.toNatClampNeg) (by omega) (by omega)
    have hfind : ((b :: r).find? (· < 0)) = none := by
      rw [List.find?_eq_none]
      intro z hz
      simpa using (hok' z hz).1
    have hk1 : (T.setTop g).vm.classes[cA]? = some k := h1
    rw [multianewarray.make]
    simp only [wp_bind', W.ite, hn, if_false, wp_pure', W.theClass, hk1, h2, Option.some.injEq, exists_eq_left']
    refine Jvm.Free.Multi.wp_newArray hk1 h2 hl (by rw [h4]; exact hh) (Jvm.Free.Multi.refFits h3 _ (Or.inl rfl)) rfl (by show T.heap.size < _; omega) (by show T.slotsUsed + _ ≤ _; omega) ?_
    simp only [hfind]
    rw [ite_self, wp_bind', Std.Legacy.Range.forIn_eq_forIn_range']
    have hsz : ([:n.toNatClampNeg] : Std.Legacy.Range).size = n.toNatClampNeg := by simp [Std.Legacy.Range.size]
    rw [hsz]
    show wp (forIn (List.range' 0 n.toNatClampNeg 1) PUnit.unit _) _ E e d acts _
    rw [State.pushCell_setTop]
    obtain ⟨o0, ho0⟩ : ∃ z : Cell, z = { cls := cA, slots := Array.replicate n.toNatClampNeg .null, vm := .none } := ⟨_, rfl⟩
    rw [← ho0]
    have X0 := X.pushed o0
    have e0 : o0.slots.size = n.toNatClampNeg := by rw [ho0]; simp
    rw [e0] at X0
    refine wp_forIn_inv (fun rest s' => ∃ (i : Nat) (Ti : State), i ≤ n.toNatClampNeg ∧ rest = List.range' i (n.toNatClampNeg - i) ∧ s' = Ti.setTop g ∧ Stand p l e R s m args below meth c Ti locs (cells + 1 + i * mu_C (b :: r)) (slots + n.toNatClampNeg + i * mu_S (b :: r)) ∧ Ti.vm = T.vm ∧ Ti.heap.size = T.heap.size + 1 + i * mu_C (b :: r) ∧ (∀ x : Nat, x < T.heap.size → Ti.heap[x]? = T.heap[x]?) ∧ Ti.heap[T.heap.size]? = some (arrV cA n.toNatClampNeg (fun j => va_rf (if j < i then some (T.heap.size + 1 + j * mu_C (b :: r)) else none))) ∧ ∀ j, j < i → mu_At Ti.heap (comp :: ids) (b :: r) (T.heap.size + 1 + j * mu_C (b :: r))) _ _ ⟨0, T.pushCell o0, Nat.zero_le _, rfl, rfl, by simpa using X0, rfl, by rw [size_pushCell]; omega, fun x hx => State.heap_pushCell_of_lt (h := hx) _ _, by rw [State.heap_pushCell_size, ho0, mu_arr0 cA n.toNatClampNeg (T.heap.size + 1) (mu_C (b :: r))], fun j hj => absurd hj (Nat.not_lt_zero _)⟩ ?_ ?_
    · rintro x rest s' d' acts' Q' ⟨i, Ti, hi, hlr, rfl, Xi, hvi, hgi, holdi, hoi, hin⟩ hnext
      have hlt : i < n.toNatClampNeg := by
        rcases Nat.lt_or_ge i n.toNatClampNeg with h | h
        · exact h
        · rw [show n.toNatClampNeg - i = 0 from by omega] at hlr; simp at hlr
      obtain ⟨rfl, hrest⟩ : x = i ∧ rest = List.range' (i + 1) (n.toNatClampNeg - (i + 1)) := by
        rw [show n.toNatClampNeg - i = (n.toNatClampNeg - (i + 1)) + 1 from by omega, List.range'_succ] at hlr
        exact ⟨(List.cons.inj hlr).1, (List.cons.inj hlr).2⟩
      have hmC : x * mu_C (b :: r) + mu_C (b :: r) ≤ n.toNatClampNeg * mu_C (b :: r) := by
        have := Nat.mul_le_mul_right (mu_C (b :: r)) (show x + 1 ≤ n.toNatClampNeg from hlt)
        rw [Nat.succ_mul] at this; exact this
      have hmS : x * mu_S (b :: r) + mu_S (b :: r) ≤ n.toNatClampNeg * mu_S (b :: r) := by
        have := Nat.mul_le_mul_right (mu_S (b :: r)) (show x + 1 ≤ n.toNatClampNeg from hlt)
        rw [Nat.succ_mul] at this; exact this
      simp only [wp_bind']
      refine mu2_wp g (b :: r) ids comp Ti _ _ _ _ Xi (mu_Kc_vm (fun c9 k9 h9 => ⟨k9, by rw [hvi]; exact h9, rfl⟩) _ _ h5) hok' (by omega) (by omega) _ (fun T2 d2 acts2 X2 hv2 hg2 hold2 hat2 => ?_)
      have hcell : T2.heap[T.heap.size]? = some (arrV cA n.toNatClampNeg (fun j => va_rf (if j < x then some (T.heap.size + 1 + j * mu_C (b :: r)) else none))) := by rw [hold2 _ (by omega)]; exact hoi
      have hk2 : T2.vm.classes[cA]? = some k := by rw [hv2, hvi]; exact h1
      simp only [wp_bind', W.writeLoc, wp_pure', State.heap_setTop]
      have X3 := (X2.stored hcell x (.ref Ti.heap.size)).dropFresh (fun z hz => by
        rw [List.mem_singleton.mp hz]
        exact X.heapGrown)
      refine ⟨_, hcell, by simp [arrV], by rw [arrV_size]; exact hlt, ?_, hnext _ _ _ ⟨x + 1, T2.setCell T.heap.size ((arrV cA n.toNatClampNeg (fun j => va_rf (if j < x then some (T.heap.size + 1 + j * mu_C (b :: r)) else none))).setSlot x (.ref Ti.heap.size)), hlt, hrest, ?_, ?_, ?_, ?_, ?_, ?_, ?_⟩⟩
      · simp [State.fitsSlot, State.slotType?, arrV, hk2, h2, Jvm.Free.Multi.refFits h3 _ (Or.inr ⟨_, rfl⟩)]
      · rw [State.setCell_setTop]
      · have z1 : cells + 1 + (x + 1) * mu_C (b :: r) = cells + 1 + x * mu_C (b :: r) + mu_C (b :: r) := by rw [Nat.succ_mul]; omega
        have z2 : slots + n.toNatClampNeg + (x + 1) * mu_S (b :: r) = slots + n.toNatClampNeg + x * mu_S (b :: r) + mu_S (b :: r) := by rw [Nat.succ_mul]; omega
        rw [z1, z2]
        exact X3
      · show T2.vm = T.vm
        rw [hv2, hvi]
      · rw [size_setCell, hg2, hgi, Nat.succ_mul]; omega
      · intro y hy
        rw [State.heap_setCell_other (Nat.ne_of_gt hy), hold2 _ (by omega)]
        exact holdi y hy
      · rw [State.heap_setCell_self hcell, hgi, mu_arrS]
      · intro j hj
        by_cases hjx : j = x
        · subst hjx
          rw [hgi] at hat2
          refine mu_At_kept _ _ _ hat2 (fun y hy1 hy2 => ?_)
          rw [State.heap_setCell_other (show T.heap.size ≠ y by omega)]
        · have hj2 : j < x := by omega
          have h6 := Nat.mul_le_mul_right (mu_C (b :: r)) (show j + 1 ≤ x from hj2)
          rw [Nat.succ_mul] at h6
          refine mu_At_kept _ _ _ (hin j hj2) (fun y hy1 hy2 => ?_)
          rw [State.heap_setCell_other (show T.heap.size ≠ y by omega), hold2 _ (by omega)]
    · rintro s' d' acts' ⟨i, Ti, hi, hlr, rfl, Xi, hvi, hgi, holdi, hoi, hin⟩
      have hiN : i = n.toNatClampNeg := by
        rcases Nat.lt_or_ge i n.toNatClampNeg with h | h
        · rw [show n.toNatClampNeg - i = (n.toNatClampNeg - (i + 1)) + 1 from by omega, List.range'_succ] at hlr; cases hlr
        · omega
      subst hiN
      simp only [wp_pure']
      refine hq Ti _ _ ?_ hvi (by rw [hgi, eC]; omega) holdi ⟨?_, hin⟩
      · rw [eC, eS]
        have z1 : cells + (1 + n.toNatClampNeg * mu_C (b :: r)) = cells + 1 + n.toNatClampNeg * mu_C (b :: r) := by omega
        have z2 : slots + (n.toNatClampNeg + n.toNatClampNeg * mu_S (b :: r)) = slots + n.toNatClampNeg + n.toNatClampNeg * mu_S (b :: r) := by omega
        rw [z1, z2]
        exact Xi
      · rw [hoi, vp_cell_q]
end MU
section MV
variable {p : Program} {l : Launch} {e : Env} {R : Room} {s : State} {m : MethodId} {args : Array Value} {below : List Frame} {meth : Method} {c : Code} {H : Heap} {locs : List Loc} {cells slots : Nat} {Q : State → Prop}
variable {cc : ByteArray} {pc : Nat} {ls : Array Slot} {rest : List Value} {D : va_G} {cl : List vw_C} {A : Nat → Prop} {tys : List (ClassId × FieldType)} {ws : va_W} {H0 : Heap} {cI cII cIII : ClassId}
set_option maxHeartbeats 4000000 in
theorem mu2_st2 {T : State} (X : Stand p l e R s m args below meth c T locs cells slots) (hexec : p.tables.exec = Jvm.exec) {own : String} {index : Nat} (hown : s.vm.findClass own = some m.cls) (hclink : (Cond.classLink own index "[[I").before args s = true) (f1 : s.vm.findClass "[I" = some cI) (f2 : s.vm.findClass "[[I" = some cII) (hT0 : mu_T s)
    {n k : Int32} (hns : ∀ z ∈ [n, k], ¬ z < 0 ∧ z.toNatClampNeg * 4 ≤ 536870912) (hcells : cells + mu_C [n, k] ≤ R.cells) (hslots : slots + mu_S [n, k] ≤ R.slots) {g : JFrame} (hg : g.method = m) (hdg : decode c.code g.pc = .ok (.multianewarray index 2, 4)) (hstack : g.stack = .int k :: .int n :: rest) {Qf : State → Prop}
    (kk : ∀ (T2 : State), Stand p l e R s m args below meth c T2 locs (cells + mu_C [n, k]) (slots + mu_S [n, k]) → T2.heap.size = T.heap.size + mu_C [n, k] → (∀ x : Nat, x < T.heap.size → T2.heap[x]? = T.heap[x]?) → mu_At T2.heap [cII, cI] [n, k] T.heap.size → ∃ t, Steps p.tables e below (T2.setTop { g with pc := g.pc + 4, stack := .ref T.heap.size :: rest }) t ∧ Qf t) :
    ∃ t, Steps p.tables e below (T.setTop g) t ∧ Qf t := by
  subst hg
  have hpl : e.platform.magicAccessors = ({} : Platform).magicAccessors := by rw [X.admits.platform]
  obtain ⟨kC, ccc, hfa⟩ : ∃ (kC : Class) (cc0 : ClassId), s.vm.classes[cI]? = some kC ∧ kC.kind = .array cc0 .int := by
    obtain ⟨cA, hfA, k9, cc9, h1, h2⟩ := mu_K1 (n := n) hT0
    cases Option.some.inj (f1.symm.trans hfA)
    exact ⟨k9, cc9, h1, h2⟩
  have hKA : mu_Kc s [cII, cI] [n, k] := by
    obtain ⟨comp, cA, kA, h1, h2, h3, h4⟩ := Cond.arrayOver_specA hT0.2.1
    cases Option.some.inj (f2.symm.trans h4)
    cases Option.some.inj (f1.symm.trans h1)
    exact ⟨kA, _, h2, h3, rfl, rfl, kC, ccc, hfa⟩
  obtain ⟨c0, hfc0, hcl⟩ := Cond.classLink_spec hown hclink e.platform hpl
  cases Option.some.inj (f2.symm.trans hfc0)
  obtain ⟨hg₁, hwarm₁, hready₁⟩ := State.classEntry (e := e) X.warmed hcl
  generalize T.vm.noted g.method.cls index (.cls cII) = vm₁ at hg₁ hwarm₁ hready₁
  have X₁ := X.noted hwarm₁
  have hKA1 : mu_Kc (T.setVm vm₁) [cII, cI] [n, k] := mu_Kc_vm (fun c9 k9 h9 => hwarm₁.alike.2.2 _ _ h9 |>.imp fun k8 h8 => ⟨h8.1, by rw [h8.2]⟩) _ _ hKA
  suffices h : ∃ T2 : State, Stand p l e R s g.method args below meth c T2 locs (cells + mu_C [n, k]) (slots + mu_S [n, k]) ∧ T2.heap.size = T.heap.size + mu_C [n, k] ∧ (∀ x : Nat, x < T.heap.size → T2.heap[x]? = T.heap[x]?) ∧ mu_At T2.heap [cII, cI] [n, k] T.heap.size ∧ ∀ target, Steps p.tables e below (T2.setTop { g with pc := g.pc + 4, stack := .ref T.heap.size :: rest }) target → Steps p.tables e below (T.setTop g) target by
    obtain ⟨T2, X2, h1, h2, h4, h3⟩ := h
    obtain ⟨t, a1, b1⟩ := kk T2 X2 h1 h2 h4
    exact ⟨t, h3 t a1, b1⟩
  obtain ⟨s₁, ⟨T2, rfl, X2, h1, h2, h4⟩, h3⟩ := mu_instr (tb := p.tables) (f := g) X.here hdg (P := fun s₁ => ∃ (T2 : State), s₁ = T2.setTop { g with stack := .ref T.heap.size :: rest } ∧ Stand p l e R s g.method args below meth c T2 locs (cells + mu_C [n, k]) (slots + mu_S [n, k]) ∧ T2.heap.size = T.heap.size + mu_C [n, k] ∧ (∀ x : Nat, x < T.heap.size → T2.heap[x]? = T.heap[x]?) ∧ mu_At T2.heap [cII, cI] [n, k] T.heap.size) (by
    rw [hexec]
    show wpRun (Op.multianewarray.sem index 2) _ _ e (T.setTop g)
    simp only [wpRun, multianewarray.sem, wp_bind', W.resolveClassAt_links (State.method?_setTop g X.here.top) hg₁]
    rw [W.popN, if_neg (by decide)]
    refine ⟨g, State.topJava?_setTop' (s := T.setVm vm₁) g X.here.top, [.int n, .int k], rest, rfl, hstack, ?_⟩
    simp only [List.mapM_cons, List.mapM_nil, wp_bind', wp_pure']
    have eS : ((T.setTop g).setVm vm₁).setTop { g with stack := rest } = (T.setVm vm₁).setTop { g with stack := rest } := by
      show ((T.setVm vm₁).setTop g).setTop _ = _
      rw [State.setTop_setTop]
    rw [eS]
    refine mu2_wp { g with stack := rest } [n, k] [cI] cII (T.setVm vm₁) cells slots _ _ X₁ hKA1 (mu_oks X.admits hns) hcells hslots _ (fun T2 d' acts' X2 hv hsz hold hat => ?_)
    simp only [wp_bind', W.mark, W.pushRef, State.topJava?_setTop' _ X2.here.top, Option.some.injEq, exists_eq_left', State.setTop_setTop]
    exact ⟨T2, rfl, X2, hsz, hold, hat⟩)
  refine ⟨T2, X2, h1, h2, h4, fun target ht => h3 target (fun acts => ?_)⟩
  rw [afterInstr_ok]
  exact ht
set_option maxHeartbeats 4000000 in
theorem mu2_st3 {T : State} (X : Stand p l e R s m args below meth c T locs cells slots) (hexec : p.tables.exec = Jvm.exec) {own : String} {index : Nat} (hown : s.vm.findClass own = some m.cls) (hclink : (Cond.classLink own index "[[[I").before args s = true) (f1 : s.vm.findClass "[I" = some cI) (f2 : s.vm.findClass "[[I" = some cII) (f3 : s.vm.findClass "[[[I" = some cIII) (hT0 : mu_T s)
    {n k j : Int32} (hns : ∀ z ∈ [n, k, j], ¬ z < 0 ∧ z.toNatClampNeg * 4 ≤ 536870912) (hcells : cells + mu_C [n, k, j] ≤ R.cells) (hslots : slots + mu_S [n, k, j] ≤ R.slots) {g : JFrame} (hg : g.method = m) (hdg : decode c.code g.pc = .ok (.multianewarray index 3, 4)) (hstack : g.stack = .int j :: .int k :: .int n :: rest) {Qf : State → Prop}
    (kk : ∀ (T2 : State), Stand p l e R s m args below meth c T2 locs (cells + mu_C [n, k, j]) (slots + mu_S [n, k, j]) → T2.heap.size = T.heap.size + mu_C [n, k, j] → (∀ x : Nat, x < T.heap.size → T2.heap[x]? = T.heap[x]?) → mu_At T2.heap [cIII, cII, cI] [n, k, j] T.heap.size → ∃ t, Steps p.tables e below (T2.setTop { g with pc := g.pc + 4, stack := .ref T.heap.size :: rest }) t ∧ Qf t) :
    ∃ t, Steps p.tables e below (T.setTop g) t ∧ Qf t := by
  subst hg
  have hpl : e.platform.magicAccessors = ({} : Platform).magicAccessors := by rw [X.admits.platform]
  obtain ⟨kC, ccc, hfa⟩ : ∃ (kC : Class) (cc0 : ClassId), s.vm.classes[cI]? = some kC ∧ kC.kind = .array cc0 .int := by
    obtain ⟨cA, hfA, k9, cc9, h1, h2⟩ := mu_K1 (n := n) hT0
    cases Option.some.inj (f1.symm.trans hfA)
    exact ⟨k9, cc9, h1, h2⟩
  have hKA : mu_Kc s [cIII, cII, cI] [n, k, j] := by
    obtain ⟨comp, cA, kA, h1, h2, h3, h4⟩ := Cond.arrayOver_specA hT0.2.1
    cases Option.some.inj (f2.symm.trans h4)
    cases Option.some.inj (f1.symm.trans h1)
    obtain ⟨comp2, cA2, kA2, h5, h6, h7, h8⟩ := Cond.arrayOver_specA hT0.2.2
    cases Option.some.inj (f3.symm.trans h8)
    cases Option.some.inj (f2.symm.trans h5)
    exact ⟨kA2, _, h6, h7, rfl, rfl, kA, _, h2, h3, rfl, rfl, kC, ccc, hfa⟩
  obtain ⟨c0, hfc0, hcl⟩ := Cond.classLink_spec hown hclink e.platform hpl
  cases Option.some.inj (f3.symm.trans hfc0)
  obtain ⟨hg₁, hwarm₁, hready₁⟩ := State.classEntry (e := e) X.warmed hcl
  generalize T.vm.noted g.method.cls index (.cls cIII) = vm₁ at hg₁ hwarm₁ hready₁
  have X₁ := X.noted hwarm₁
  have hKA1 : mu_Kc (T.setVm vm₁) [cIII, cII, cI] [n, k, j] := mu_Kc_vm (fun c9 k9 h9 => hwarm₁.alike.2.2 _ _ h9 |>.imp fun k8 h8 => ⟨h8.1, by rw [h8.2]⟩) _ _ hKA
  suffices h : ∃ T2 : State, Stand p l e R s g.method args below meth c T2 locs (cells + mu_C [n, k, j]) (slots + mu_S [n, k, j]) ∧ T2.heap.size = T.heap.size + mu_C [n, k, j] ∧ (∀ x : Nat, x < T.heap.size → T2.heap[x]? = T.heap[x]?) ∧ mu_At T2.heap [cIII, cII, cI] [n, k, j] T.heap.size ∧ ∀ target, Steps p.tables e below (T2.setTop { g with pc := g.pc + 4, stack := .ref T.heap.size :: rest }) target → Steps p.tables e below (T.setTop g) target by
    obtain ⟨T2, X2, h1, h2, h4, h3⟩ := h
    obtain ⟨t, a1, b1⟩ := kk T2 X2 h1 h2 h4
    exact ⟨t, h3 t a1, b1⟩
  obtain ⟨s₁, ⟨T2, rfl, X2, h1, h2, h4⟩, h3⟩ := mu_instr (tb := p.tables) (f := g) X.here hdg (P := fun s₁ => ∃ (T2 : State), s₁ = T2.setTop { g with stack := .ref T.heap.size :: rest } ∧ Stand p l e R s g.method args below meth c T2 locs (cells + mu_C [n, k, j]) (slots + mu_S [n, k, j]) ∧ T2.heap.size = T.heap.size + mu_C [n, k, j] ∧ (∀ x : Nat, x < T.heap.size → T2.heap[x]? = T.heap[x]?) ∧ mu_At T2.heap [cIII, cII, cI] [n, k, j] T.heap.size) (by
    rw [hexec]
    show wpRun (Op.multianewarray.sem index 3) _ _ e (T.setTop g)
    simp only [wpRun, multianewarray.sem, wp_bind', W.resolveClassAt_links (State.method?_setTop g X.here.top) hg₁]
    rw [W.popN, if_neg (by decide)]
    refine ⟨g, State.topJava?_setTop' (s := T.setVm vm₁) g X.here.top, [.int n, .int k, .int j], rest, rfl, hstack, ?_⟩
    simp only [List.mapM_cons, List.mapM_nil, wp_bind', wp_pure']
    have eS : ((T.setTop g).setVm vm₁).setTop { g with stack := rest } = (T.setVm vm₁).setTop { g with stack := rest } := by
      show ((T.setVm vm₁).setTop g).setTop _ = _
      rw [State.setTop_setTop]
    rw [eS]
    refine mu2_wp { g with stack := rest } [n, k, j] [cII, cI] cIII (T.setVm vm₁) cells slots _ _ X₁ hKA1 (mu_oks X.admits hns) hcells hslots _ (fun T2 d' acts' X2 hv hsz hold hat => ?_)
    simp only [wp_bind', W.mark, W.pushRef, State.topJava?_setTop' _ X2.here.top, Option.some.injEq, exists_eq_left', State.setTop_setTop]
    exact ⟨T2, rfl, X2, hsz, hold, hat⟩)
  refine ⟨T2, X2, h1, h2, h4, fun target ht => h3 target (fun acts => ?_)⟩
  rw [afterInstr_ok]
  exact ht
end MV

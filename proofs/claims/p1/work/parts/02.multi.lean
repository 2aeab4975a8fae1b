/-! new T[..][..] of any dimensions: what comes lies behind the heap, what was there stays -/
def mu_C : List Int32 → Nat
  | [] => 0
  | [_] => 1
  | n :: r => 1 + n.toNatClampNeg * mu_C r
def mu_S : List Int32 → Nat
  | [] => 0
  | [n] => n.toNatClampNeg
  | n :: r => n.toNatClampNeg + n.toNatClampNeg * mu_S r
/-- class c is an array class of as many dimensions as there are counts, over ints -/
def mu_K (s : State) : ClassId → List Int32 → Prop
  | _, [] => False
  | c, [_] => ∃ (k : Class) (cc : ClassId), s.vm.classes[c]? = some k ∧ k.kind = .array cc .int
  | c, _ :: r => ∃ (k : Class) (comp : ClassId) (t0 : FieldType), s.vm.classes[c]? = some k ∧ k.kind = .array comp t0 ∧ t0.isReference = true ∧ componentBytes t0 = 4 ∧ mu_K s comp r
def mu_ok (e : Env) (counts : List Int32) : Prop := ∀ n ∈ counts, ¬ n < 0 ∧ ¬ n.toNatClampNeg > e.platform.arrayLengthLimit ∧ ¬ n.toNatClampNeg * 4 > e.platform.maxHeapBytes
theorem mu_K_vm {s u : State} (h : u.vm = s.vm) : ∀ (cs : List Int32) (c : ClassId), mu_K s c cs → mu_K u c cs
  | [], _, q => q
  | [_], c, ⟨k, cc, h1, h2⟩ => ⟨k, cc, by rw [h]; exact h1, h2⟩
  | _ :: b :: r, c, ⟨k, comp, t0, h1, h2, h3, h4, h5⟩ => ⟨k, comp, t0, by rw [h]; exact h1, h2, h3, h4, mu_K_vm h (b :: r) comp h5⟩
section MU
variable {p : Program} {l : Launch} {e : Env} {R : Room} {s : State} {m : MethodId} {args : Array Value} {below : List Frame} {meth : Method} {c : Code} {locs : List Loc}
variable {E : CtlPost} {d : Bool} {acts : List Action}
set_option maxHeartbeats 4000000 in
theorem mu_wp (g : JFrame) : ∀ (counts : List Int32) (cA : ClassId) (T : State) (cells slots : Nat) (d : Bool) (acts : List Action), Stand p l e R s m args below meth c T locs cells slots → mu_K T cA counts → mu_ok e counts →
    cells + mu_C counts ≤ R.cells → slots + mu_S counts ≤ R.slots → ∀ (Q : Addr → Pre),
    (∀ (T2 : State) (a : Addr) (d' : Bool) (acts' : List Action), Stand p l e R s m args below meth c T2 locs (cells + mu_C counts) (slots + mu_S counts) → T2.vm = T.vm → T.heap.size ≤ T2.heap.size → (∀ x : Nat, x < T.heap.size → T2.heap[x]? = T.heap[x]?) → Q a d' acts' (T2.setTop g)) →
    wp (multianewarray.make cA counts) Q E e d acts (T.setTop g)
  | [], _, _, _, _, _, _, _, hK, _, _, _, _, _ => hK.elim
  | [n], cA, T, cells, slots, d, acts, X, ⟨k, cc, h1, h2⟩, hok, hc, hs, Q, hq => by
    obtain ⟨hn, hl, hh⟩ := hok n List.mem_cons_self
    obtain ⟨hr1, hr2⟩ := X.roomAbove (a := 1) (b := n.toNatClampNeg) hc hs
    have hk1 : (T.setTop g).vm.classes[cA]? = some k := h1
    refine Jvm.Free.Multi.wp_make1 (type := .int) hk1 h2 hn hl hh rfl rfl (by show T.heap.size < _; omega) (by show T.slotsUsed + _ ≤ _; omega) ?_
    rw [State.pushCell_setTop]
    have X2 := X.pushed (Jvm.Free.Multi.innerC cA n.toNatClampNeg (defaultValue .int))
    have e1 : (Jvm.Free.Multi.innerC cA n.toNatClampNeg (defaultValue .int)).slots.size = n.toNatClampNeg := by simp [Jvm.Free.Multi.innerC]
    rw [e1] at X2
    exact hq _ _ _ _ X2 rfl (by rw [size_pushCell]; omega) (fun x hx => State.heap_pushCell_of_lt (h := hx) _ _)
  | n :: b :: r, cA, T, cells, slots, d, acts, X, ⟨k, comp, t0, h1, h2, h3, h4, h5⟩, hok, hc, hs, Q, hq => by
    obtain ⟨hn, hl, hh⟩ := hok n List.mem_cons_self
    have hok' : mu_ok e (b :: r) := fun z hz => hok z (List.mem_cons_of_mem _ hz)
    have eC : mu_C (n :: b :: r) = 1 + n.toNatClampNeg * mu_C (b :: r) := rfl
    have eS : mu_S (n :: b :: r) = n.toNatClampNeg + n.toNatClampNeg * mu_S (b :: r) := rfl
    rw [eC] at hc
    rw [eS] at hs
    obtain ⟨hr1, hr2⟩ := X.roomAbove (a := 1) (b := n.toNatClampNeg) (by omega) (by omega)
    have hfind : ((b :: r).find? (· < 0)) = none := by
      rw [List.find?_eq_none]
      intro z hz
      simpa using (hok' z hz).1
    have hk1 : (T.setTop g).vm.classes[cA]? = some k := h1
    rw [multianewarray.make]
    simp only [wp_bind', W.ite, hn, if_false, wp_pure', W.theClass, hk1, h2, Option.some.injEq, exists_eq_left']
    refine Jvm.Free.Multi.wp_newArray hk1 h2 hl (by rw [h4]; exact hh) (Jvm.Free.Multi.refFits h3 _ (Or.inl rfl)) rfl (by show T.heap.size < _; omega) (by show T.slotsUsed + _ ≤ _; omega) ?_
    simp only [hfind]
    rw [ite_self, wp_bind', Std.Legacy.Range.forIn_eq_forIn_range']
    have hsz : ([:n.toNatClampNeg] : Std.Legacy.Range).size = n.toNatClampNeg := by simp [Std.Legacy.Range.size]
    rw [hsz]
    show wp (forIn (List.range' 0 n.toNatClampNeg 1) PUnit.unit _) _ E e d acts _
    rw [State.pushCell_setTop]
    obtain ⟨o0, ho0⟩ : ∃ z : Cell, z = { cls := cA, slots := Array.replicate n.toNatClampNeg .null, vm := .none } := ⟨_, rfl⟩
    rw [← ho0]
    have X0 := X.pushed o0
    have e0 : o0.slots.size = n.toNatClampNeg := by rw [ho0]; simp
    rw [e0] at X0
    refine wp_forIn_inv (fun rest s' => ∃ (i : Nat) (Ti : State) (oi : Cell), i ≤ n.toNatClampNeg ∧ rest = List.range' i (n.toNatClampNeg - i) ∧ s' = Ti.setTop g ∧ Stand p l e R s m args below meth c Ti locs (cells + 1 + i * mu_C (b :: r)) (slots + n.toNatClampNeg + i * mu_S (b :: r)) ∧ Ti.vm = T.vm ∧ T.heap.size < Ti.heap.size ∧ (∀ x : Nat, x < T.heap.size → Ti.heap[x]? = T.heap[x]?) ∧ Ti.heap[T.heap.size]? = some oi ∧ oi.cls = cA ∧ oi.vm = .none ∧ oi.slots.size = n.toNatClampNeg) _ _ ⟨0, T.pushCell o0, o0, Nat.zero_le _, rfl, rfl, by simpa using X0, rfl, by rw [size_pushCell]; omega, fun x hx => State.heap_pushCell_of_lt (h := hx) _ _, State.heap_pushCell_size _ _, by rw [ho0], by rw [ho0], e0⟩ ?_ ?_
    · rintro x rest s' d' acts' Q' ⟨i, Ti, oi, hi, hlr, rfl, Xi, hvi, hgi, holdi, hoi, ho1, ho2, ho3⟩ hnext
      have hlt : i < n.toNatClampNeg := by
        rcases Nat.lt_or_ge i n.toNatClampNeg with h | h
        · exact h
        · rw [show n.toNatClampNeg - i = 0 from by omega] at hlr; simp at hlr
      obtain ⟨rfl, hrest⟩ : x = i ∧ rest = List.range' (i + 1) (n.toNatClampNeg - (i + 1)) := by
        rw [show n.toNatClampNeg - i = (n.toNatClampNeg - (i + 1)) + 1 from by omega, List.range'_succ] at hlr
        exact ⟨(List.cons.inj hlr).1, (List.cons.inj hlr).2⟩
      have hmC : x * mu_C (b :: r) + mu_C (b :: r) ≤ n.toNatClampNeg * mu_C (b :: r) := by
        have := Nat.mul_le_mul_right (mu_C (b :: r)) (show x + 1 ≤ n.toNatClampNeg from hlt)
        rw [Nat.succ_mul] at this; exact this
      have hmS : x * mu_S (b :: r) + mu_S (b :: r) ≤ n.toNatClampNeg * mu_S (b :: r) := by
        have := Nat.mul_le_mul_right (mu_S (b :: r)) (show x + 1 ≤ n.toNatClampNeg from hlt)
        rw [Nat.succ_mul] at this; exact this
      simp only [wp_bind']
      refine mu_wp g (b :: r) comp Ti _ _ _ _ Xi (mu_K_vm hvi _ _ h5) hok' (by omega) (by omega) _ (fun T2 a d2 acts2 X2 hv2 hg2 hold2 => ?_)
      have hcell : T2.heap[T.heap.size]? = some oi := by rw [hold2 _ hgi]; exact hoi
      have hk2 : T2.vm.classes[cA]? = some k := by rw [hv2, hvi]; exact h1
      simp only [wp_bind', W.writeLoc, wp_pure', State.heap_setTop]
      have X3 := (X2.stored hcell x (.ref a)).dropFresh (fun z hz => by
        rw [List.mem_singleton.mp hz]
        exact X.heapGrown)
      refine ⟨oi, hcell, by rw [ho2]; simp, by rw [ho3]; exact hlt, ?_, hnext _ _ _ ⟨x + 1, T2.setCell T.heap.size (oi.setSlot x (.ref a)), oi.setSlot x (.ref a), hlt, hrest, ?_, ?_, ?_, ?_, ?_, ?_, ?_, ?_, ?_⟩⟩
      · rw [ho1, ho2]
        simp [State.fitsSlot, State.slotType?, hk2, h2, Jvm.Free.Multi.refFits h3 _ (Or.inr ⟨_, rfl⟩)]
      · rw [State.setCell_setTop]
      · have z1 : cells + 1 + (x + 1) * mu_C (b :: r) = cells + 1 + x * mu_C (b :: r) + mu_C (b :: r) := by rw [Nat.succ_mul]; omega
        have z2 : slots + n.toNatClampNeg + (x + 1) * mu_S (b :: r) = slots + n.toNatClampNeg + x * mu_S (b :: r) + mu_S (b :: r) := by rw [Nat.succ_mul]; omega
        rw [z1, z2]
        exact X3
      · show T2.vm = T.vm
        rw [hv2, hvi]
      · rw [size_setCell]; omega
      · intro y hy
        rw [State.heap_setCell_other (Nat.ne_of_gt hy), hold2 _ (by omega)]
        exact holdi y hy
      · exact State.heap_setCell_self hcell
      · exact ho1
      · exact ho2
      · simp [Cell.setSlot, ho3]
    · rintro s' d' acts' ⟨i, Ti, oi, hi, hlr, rfl, Xi, hvi, hgi, holdi, hoi, ho1, ho2, ho3⟩
      have hiN : i = n.toNatClampNeg := by
        rcases Nat.lt_or_ge i n.toNatClampNeg with h | h
        · rw [show n.toNatClampNeg - i = (n.toNatClampNeg - (i + 1)) + 1 from by omega, List.range'_succ] at hlr; cases hlr
        · omega
      subst hiN
      simp only [wp_pure']
      refine hq Ti _ _ _ ?_ hvi (Nat.le_of_lt hgi) holdi
      rw [eC, eS]
      have z1 : cells + (1 + n.toNatClampNeg * mu_C (b :: r)) = cells + 1 + n.toNatClampNeg * mu_C (b :: r) := by omega
      have z2 : slots + (n.toNatClampNeg + n.toNatClampNeg * mu_S (b :: r)) = slots + n.toNatClampNeg + n.toNatClampNeg * mu_S (b :: r) := by omega
      rw [z1, z2]
      exact Xi
end MU

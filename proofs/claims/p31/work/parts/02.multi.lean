/-! new T[..][..] of any dimensions: what comes lies behind the heap, what was there stays -/
def mu_C : List Int32 → Nat
  | [] => 0
  | [_] => 1
  | n :: r => 1 + n.toNatClampNeg * mu_C r
def mu_S : List Int32 → Nat
  | [] => 0
  | [n] => n.toNatClampNeg
  | n :: r => n.toNatClampNeg + n.toNatClampNeg * mu_S r
/-- class c is an array class of as many dimensions as there are counts, over ints -/
def mu_K (s : State) : ClassId → List Int32 → Prop
  | _, [] => False
  | c, [_] => ∃ (k : Class) (cc : ClassId), s.vm.classes[c]? = some k ∧ k.kind = .array cc .int
  | c, _ :: r => ∃ (k : Class) (comp : ClassId) (t0 : FieldType), s.vm.classes[c]? = some k ∧ k.kind = .array comp t0 ∧ t0.isReference = true ∧ componentBytes t0 = 4 ∧ mu_K s comp r
def mu_ok (e : Env) (counts : List Int32) : Prop := ∀ n ∈ counts, ¬ n < 0 ∧ ¬ n.toNatClampNeg > e.platform.arrayLengthLimit ∧ ¬ n.toNatClampNeg * 4 > e.platform.maxHeapBytes
section MU
variable {p : Program} {l : Launch} {e : Env} {R : Room} {s : State} {m : MethodId} {args : Array Value} {below : List Frame} {meth : Method} {c : Code} {locs : List Loc}
variable {E : CtlPost} {d : Bool} {acts : List Action}
end MU
theorem mu_instr {tb : Tables} [Ours tb] {e : Env} {below : List Frame} {s : State} {f : JFrame} {c : Code} (h : At s f.method c below) {i : Instr} {len : Nat} (hd : decode c.code f.pc = .ok (i, len)) {P : State → Prop}
    (hw : wpRun (tb.exec i) (fun _ s₁ _ => P s₁) (fun _ _ _ => False) e (s.setTop f)) :
    ∃ s₁ : State, P s₁ ∧ ∀ target, (∀ acts, Steps tb e below (afterInstr e len (.ok () s₁ acts)).1 target) → Steps tb e below (s.setTop f) target := by
  have hw := (wpRun_iff_run _ _ _ _ _).mp hw
  cases hr : (tb.exec i).run e (s.setTop f) with
  | ok a s₁ acts =>
    rw [hr] at hw
    refine ⟨s₁, hw, fun target ht => ?_⟩
    refine Steps.head ⟨h.running, by rw [State.curStatus?_setTop]; exact h.runnable, by rw [State.alone_setTop]; exact h.alone⟩ (h.within f) ?_
    rw [stepThread_java (State.frames_setTop' f h.top) h.plain h.code hd]
    rw [hr]
    exact ht acts
  | ctl x s₁ acts => rw [hr] at hw; cases x <;> exact hw.elim
section MV
variable {p : Program} {l : Launch} {e : Env} {R : Room} {s : State} {m : MethodId} {args : Array Value} {below : List Frame} {meth : Method} {c : Code} {H : Heap} {locs : List Loc} {cells slots : Nat} {Q : State → Prop}
variable {cc : ByteArray} {pc : Nat} {ls : Array Slot} {rest : List Value} {D : va_G} {cl : List vw_C} {A : Nat → Prop} {tys : List (ClassId × FieldType)} {ws : va_W} {H0 : Heap}
/-- the array classes that the tables know: ints, rows of ints, grids of ints -/
def mu_T (U : State) : Prop := (Cond.arrayClass .int).before #[] U = true ∧ (Cond.arrayOver (.array .int)).before #[] U = true ∧ (Cond.arrayOver (.array (.array .int))).before #[] U = true
theorem mu_K1 (h : mu_T s) {n : Int32} : ∃ cA, s.vm.findClass "[I" = some cA ∧ mu_K s cA [n] := by
  obtain ⟨comp', kC, cc, h1, h2, h3⟩ := Cond.arrayClass_spec h.1
  exact ⟨comp', h1, kC, cc, h2, h3⟩
theorem mu_oks (hadm : l.admits e) {cs : List Int32} (h : ∀ n ∈ cs, ¬ n < 0 ∧ n.toNatClampNeg * 4 ≤ 536870912) : mu_ok e cs := fun n hn => by
  obtain ⟨h1, h2⟩ := h n hn
  refine ⟨h1, ?_, ?_⟩
  · rw [Launch.admits_arrayLengthLimit hadm]; omega
  · rw [Launch.admits_maxHeapBytes hadm]; omega
end MV


/-! the law: its entry, its end, what stands still meanwhile -/
def R_law : String := "PageSkeletonLaw"
def lw_P (b : Addr) (xs : List Int32) (args : Array Value) (s : State) : Prop := args = #[.ref b] ∧ s.IntsAt b xs ∧ xs.length ≤ 3072 ∧ (Jvm.Cond.and given_1 narrow_1).before args s = true
def lw_Q (_ : Array Value) (s : State) (o : Outcome) (t : State) : Prop := o = .returned (some (.int 1)) ∧ Framed s o t [] 601024 7293034
def lw_Z (below : List Frame) (a : Array Value) (s : State) : State → Prop := fun t => ∃ o, t.status = .running ∧ Ended t below o ∧ lw_Q a s o t
/-- the law's own end, with 1 on the stack, nothing written that was there before, its room as the claim has it -/
theorem lw_ret {p : Program} {l : Launch} {e : Env} {s : State} {m : MethodId} {below : List Frame} {meth : Method} {c : Code} {b : Nat} (hx : p.tables.exec = Jvm.exec) (hb : c.code = code) (hr : meth.sig.returnType = ret) (hlocks : meth.locks = false) {pc : Nat} {H : Heap} {ls : Array Slot} (hdg : decode code pc = .ok (.ireturn, 1)) : W p l e room_1 s m #[Value.ref b] below meth c H [] 601024 7293034 (lw_Z below #[Value.ref b] s) (F0 m pc ls [.int 1]) := by
  intro T hT X
  obtain ⟨fs, hret, hrun, hended, hW, hframe⟩ := X.leave (v := some (.int 1)) (hlocks := hlocks) (fun h => by rw [hr] at h; cases h)
  have hmeth' : T.vm.method? m = some meth := X.method'
  refine ⟨T.setFrames fs, ?_, .returned (some (.int 1)), hrun, hended, rfl, ⟨_, rfl⟩, hW, hframe⟩
  jvm_step X.here [X.here.top, hx, hb, hdg, hmeth', hr, ret, narrow_b1]
  (try refine ⟨rfl, ?_⟩); (try refine ⟨rfl, ?_⟩)
  first | (intro acts; rw [hret _ acts rfl rfl rfl]) | rw [hret _ _ rfl rfl rfl]
  exact Steps.refl _
/-- what holds at the law's entry -/
def lw_At (p : Program) (s : State) (m : MethodId) (meth : Method) (c : Code) (b L : Nat) (xs : Nat → Int32) : Prop :=
  p.tables.exec = Jvm.exec ∧ c.code = code ∧ meth.sig.returnType = ret ∧ c.maxLocals = 7 ∧ s.vm.findClass R_law = some m.cls ∧ (∀ w ∈ lw_tbl, w.before #[Value.ref b] s = true) ∧ va_X b L xs s s.heap ∧ b < s.heap.size ∧ meth.locks = false ∧ (Jvm.Cond.and given_1 narrow_1).before #[Value.ref b] s = true
theorem x_lcmp0 {p : Program} {l : Launch} {e : Env} {R : Room} {s : State} {m : MethodId} {args : Array Value} {below : List Frame} {meth : Method} {c : Code} {H : Heap} {locs : List Loc} {cells slots : Nat} {Q : State → Prop} {cc : ByteArray} (hexec : p.tables.exec = Jvm.exec) (hb : c.code = cc) {x : Int64} {pc : Nat} {ls : Array Slot} {rest : List Value} (hdg : decode cc pc = .ok (.lcmp, 1))
    (k : W p l e R s m args below meth c H locs cells slots Q (F0 m (pc + 1) ls (.int 0 :: rest))) : W p l e R s m args below meth c H locs cells slots Q (F0 m pc ls (.long x :: .long x :: rest)) := by
  refine W.lcmp hexec hb hdg ?_
  rw [show lg_cmp x x = 0 by unfold lg_cmp; simp]
  exact k
theorem lo_0 : (iZ 0).toNatClampNeg = 0 := by decide +kernel
theorem gW_G {own : String} {idx : Nat} {y : MethodName} {cc : ByteArray} {n : Nat} {r : Option FieldType} {hh : List (Nat × Nat × Nat × Nat)} (h1 : Cond.methodLink own idx y ∈ wsG) (h2 : Cond.static y ∈ wsG) (h4 : Cond.initialized y.cls ∈ wsG) (hc : Cond.codeWith y cc n r hh ∈ wsG) : GoodIn wsG (va_wsS own idx y (Cond.codeWith y cc n r hh :: wsG)) := by
  have k : ∀ w ∈ va_wsS own idx y (Cond.codeWith y cc n r hh :: wsG), w ∈ wsG := by
    intro w hw
    simp only [va_wsS, List.cons_append, List.nil_append, List.mem_cons] at hw
    rcases hw with rfl | rfl | rfl | rfl | h
    · exact h1
    · exact h2
    · exact h4
    · exact hc
    · exact h
  exact fun w hw => ⟨k w hw, wsG_good (k w hw)⟩
def lA (h0 : Nat) : Nat → Prop := fun q => h0 ≤ q
theorem lA_f {h0 a K : Nat} {H0 H : Heap} {locs : List Loc} (hS : va_S (lA h0) H0 H locs) (hh : H0.size = h0) (ha : h0 ≤ a) : ∀ q, fA a K H.size q → lA h0 q := fun q h => h.elim (fun h => Nat.le_trans ha h.1) (fun h => by have := hS.1; show h0 ≤ q; omega)
theorem lA_w {h0 o0 : Nat} {H0 H : Heap} {locs : List Loc} (hS : va_S (lA h0) H0 H locs) (hh : H0.size = h0) (ha : h0 ≤ o0) : ∀ q, wA h0 o0 H.size q → lA h0 q := fun q h => by
  have := hS.1
  show h0 ≤ q
  rcases h with h | h | h <;> omega
/-- what stands still while a case of the law is walked -/
def lx_C (p : Program) (l : Launch) (s : State) (m : MethodId) (c : Code) (b L : Nat) (xs : Nat → Int32) (dC : Nat → ClassId) (dI : Nat → Nat → Nat) (cI cL cII cR cZ cIII cO : ClassId) (h0 : Nat) : Prop :=
  l.stackTraces = false ∧ p.tables.exec = Jvm.exec ∧ c.code = code ∧ c.maxLocals = 7 ∧ s.vm.findClass RL = some m.cls ∧ (∀ w ∈ wsG, w.before #[Value.ref b] s = true) ∧ va_X b L xs s s.heap ∧ b < s.heap.size ∧ s.heap.size = h0 ∧ L ≤ 3072 ∧ va_K (dC, dI) vwCl (sT cI cL cII cR) s ∧ va_K (dC, dI) vwCl (mT cI cZ cII cIII) s ∧ va_K (dC, dI) vwCl [(cO, .long)] s ∧ xM s ∧ xX (lA h0) s ∧ xNC s
/-- both sides' cells, and the cell for what is answered -/
def LW (dC : Nat → ClassId) (dI : Nat → Nat → Nat) (cI cL cII cR cZ cIII cO : ClassId) (h0 : Nat) (μ ν : va_M) (f : Nat → Int64) (H : Heap) : Prop := va_P (dC, dI) vwCl (fw (sE cI cL cII cR h0) h0 233 μ) H ∧ va_P (dC, dI) vwCl (fw (mE cI cZ cII cIII (h0 + 233)) (h0 + 233) 6325 ν) H ∧ va_P (dC, dI) vwCl [(h0 + 6558, .inl (cO, 1, .inr (.inl f)))] H
section LWs
variable {dC : Nat → ClassId} {dI : Nat → Nat → Nat} {cI cL cII cR cZ cIII cO : ClassId} {h0 : Nat} {μ ν u : va_M} {f f9 : Nat → Int64} {H H1 : Heap}
theorem LW_c (h : LW dC dI cI cL cII cR cZ cIII cO h0 μ ν f H) (hk : ∀ q : Nat, q < H.size → ¬ fA h0 233 H.size q → H1[q]? = H[q]?) (h9 : va_P (dC, dI) vwCl (fw (sE cI cL cII cR h0) h0 233 u) H1) : LW dC dI cI cL cII cR cZ cIII cO h0 u ν f H1 := by
  obtain ⟨h1, h2, h3⟩ := h
  have hlt := one_lt h3
  exact ⟨h9, fl_kept h2 hk (fun k hk9 q => by rcases q with q | q <;> omega), one_kept h3 hk (fun q => by rcases q with q | q <;> omega)⟩
theorem LW_m (h : LW dC dI cI cL cII cR cZ cIII cO h0 μ ν f H) (hk : ∀ q : Nat, q < H.size → ¬ fA (h0 + 233) 6325 H.size q → H1[q]? = H[q]?) (h9 : va_P (dC, dI) vwCl (fw (mE cI cZ cII cIII (h0 + 233)) (h0 + 233) 6325 u) H1) : LW dC dI cI cL cII cR cZ cIII cO h0 μ u f H1 := by
  obtain ⟨h1, h2, h3⟩ := h
  have hlt := one_lt h3
  exact ⟨fl_kept h1 hk (fun k hk9 q => by rcases q with q | q <;> omega), h9, one_kept h3 hk (fun q => by rcases q with q | q <;> omega)⟩
theorem LW_w (h : LW dC dI cI cL cII cR cZ cIII cO h0 μ ν f H) (hk : ∀ q : Nat, q < H.size → ¬ wA h0 (h0 + 6558) H.size q → H1[q]? = H[q]?) (h9 : va_P (dC, dI) vwCl (fw (sE cI cL cII cR h0) h0 233 u) H1) (hO : va_P (dC, dI) vwCl [(h0 + 6558, .inl (cO, 1, .inr (.inl f9)))] H1) : LW dC dI cI cL cII cR cZ cIII cO h0 u ν f9 H1 := by
  obtain ⟨h1, h2, h3⟩ := h
  have hlt := one_lt h3
  exact ⟨h9, fl_kept h2 hk (fun k hk9 q => by rcases q with q | q | q <;> omega), hO⟩
end LWs

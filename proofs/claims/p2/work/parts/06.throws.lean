/-! throws: what is asked of the tables and of the two statics -/
def xEl : List String := ["java/util/NoSuchElementException", "java/lang/IllegalArgumentException", "java/lang/IllegalStateException"]
def xDl : List String := ["java/lang/RuntimeException", "java/lang/Exception", Bundle.tN]
def xE (U : State) : Prop := (∀ X ∈ xEl, va_Nw (.castable X X) U) ∧ ∀ Y ∈ xDl, va_Nw (.declares (Bundle.init0 Y)) U
theorem xE_call {U : State} {g : JFrame} {mk : MethodId} {a : Array Value} (h : xE U) : xE (U.calling g mk a) := h
theorem xE_warm {s U : State} (hW : s.WarmedH U.vm) (h : xE s) : xE U := ⟨fun X hX => va_Nw.warmC hW (h.1 X hX), fun Y hY => va_Nw.warmD hW (h.2 Y hY)⟩
def xT (A : Nat → Prop) (U : State) (H : Heap) : Prop := vx_Zq Bundle.tN "UNASSIGNED_STACK" Bundle.steD A U H ∧ vx_Zq Bundle.tN "SUPPRESSED_SENTINEL" Bundle.listD A U H
theorem xT.moved {A : Nat → Prop} {u U : State} {H : Heap} (hvm : u.vm.Alike U.vm) (h : xT A u H) : xT A U H := ⟨h.1.moved hvm, h.2.moved hvm⟩
theorem xT.kept {A : Nat → Prop} {U : State} {H H1 : Heap} {locs : List Loc} (h : xT A U H) (hS : va_S A H H1 locs) : xT A U H1 := ⟨h.1.kept hS.2.1, h.2.kept hS.2.1⟩
theorem xT.narrow {A B : Nat → Prop} {U : State} {H : Heap} (h : xT A U H) (hAB : ∀ q, B q → A q) : xT B U H := ⟨h.1.narrow hAB, h.2.narrow hAB⟩
/-- both together, at the state's own heap -/
def xX (A : Nat → Prop) (U : State) : Prop := xT A U U.heap ∧ xE U
theorem xX_call {A : Nat → Prop} {U : State} {g : JFrame} {mk : MethodId} {a : Array Value} (h : xX A U) : xX A (U.calling g mk a) := h
theorem xX_at {A B : Nat → Prop} {s U : State} {H : Heap} {locs : List Loc} (h : xX A s) (hS : va_S A s.heap H locs) (hAB : ∀ q, B q → A q) (hU : U.heap = H) (hW : s.WarmedH U.vm) : xX B U := ⟨by rw [hU]; exact ((h.1.kept hS).narrow hAB).moved hW.alike, xE_warm hW h.2⟩
theorem xat_298 : ∀ w ∈ (vx_at0 RX9 298 "java/util/NoSuchElementException" ["java/lang/RuntimeException", "java/lang/Exception"]).filter goodWord, w ∈ wsG := by decide +kernel
theorem xat_301 : ∀ w ∈ (vx_at0 RX9 301 "java/lang/IllegalArgumentException" ["java/lang/RuntimeException", "java/lang/Exception"]).filter goodWord, w ∈ wsG := by decide +kernel
theorem xat_304 : ∀ w ∈ (vx_at0 RX9 304 "java/lang/IllegalStateException" ["java/lang/RuntimeException", "java/lang/Exception"]).filter goodWord, w ∈ wsG := by decide +kernel
theorem x_nn {p : Int32} (h : ¬ p < 0) : 0 ≤ p := by
  rw [Int32.lt_iff_toInt_lt] at h
  rw [Int32.le_iff_toInt_le]
  simp only [Int32.toInt_zero] at h ⊢
  omega
/-- how a throw leaves a method: the class by its name -/
abbrev xQ (A : Nat → Prop) : Array Value → State → Outcome → State → Prop := va_Qv (fun (_ : Unit) => False) (fun _ _ => True) A
abbrev xC (X : String) (A : Nat → Prop) : String → State → State → Prop := vx_X (fun (_ : Unit) => True) (fun E _ _ => E = X) A
theorem xnb_298 : ∀ w ∈ (vx_at0 RX9 298 "java/util/NoSuchElementException" ["java/lang/RuntimeException", "java/lang/Exception"]).filter (fun w => !goodWord w), w ∈ [Cond.castable "java/util/NoSuchElementException" "java/util/NoSuchElementException", Cond.declares (Bundle.init0 "java/lang/RuntimeException"), Cond.declares (Bundle.init0 "java/lang/Exception"), Cond.declares (Bundle.init0 Bundle.tN)] := by decide +kernel
theorem xhat_298 {args : Array Value} {s : State} (hts : ∀ w ∈ wsG, w.before args s = true) (h : xE s) : ∀ w ∈ vx_at0 RX9 298 "java/util/NoSuchElementException" ["java/lang/RuntimeException", "java/lang/Exception"], w.before args s = true := vx_hat (fun w h => hts w (xat_298 w h)) xnb_298 (vx_c (va_Nw.use rfl (h.1 _ (by decide +kernel))) (vx_c (va_Nw.use rfl (h.2 _ (by decide +kernel))) (vx_c (va_Nw.use rfl (h.2 _ (by decide +kernel))) (vx_c (va_Nw.use rfl (h.2 _ (by decide +kernel))) vx_n))))
theorem xnb_301 : ∀ w ∈ (vx_at0 RX9 301 "java/lang/IllegalArgumentException" ["java/lang/RuntimeException", "java/lang/Exception"]).filter (fun w => !goodWord w), w ∈ [Cond.castable "java/lang/IllegalArgumentException" "java/lang/IllegalArgumentException", Cond.declares (Bundle.init0 "java/lang/RuntimeException"), Cond.declares (Bundle.init0 "java/lang/Exception"), Cond.declares (Bundle.init0 Bundle.tN)] := by decide +kernel
theorem xhat_301 {args : Array Value} {s : State} (hts : ∀ w ∈ wsG, w.before args s = true) (h : xE s) : ∀ w ∈ vx_at0 RX9 301 "java/lang/IllegalArgumentException" ["java/lang/RuntimeException", "java/lang/Exception"], w.before args s = true := vx_hat (fun w h => hts w (xat_301 w h)) xnb_301 (vx_c (va_Nw.use rfl (h.1 _ (by decide +kernel))) (vx_c (va_Nw.use rfl (h.2 _ (by decide +kernel))) (vx_c (va_Nw.use rfl (h.2 _ (by decide +kernel))) (vx_c (va_Nw.use rfl (h.2 _ (by decide +kernel))) vx_n))))
theorem xnb_304 : ∀ w ∈ (vx_at0 RX9 304 "java/lang/IllegalStateException" ["java/lang/RuntimeException", "java/lang/Exception"]).filter (fun w => !goodWord w), w ∈ [Cond.castable "java/lang/IllegalStateException" "java/lang/IllegalStateException", Cond.declares (Bundle.init0 "java/lang/RuntimeException"), Cond.declares (Bundle.init0 "java/lang/Exception"), Cond.declares (Bundle.init0 Bundle.tN)] := by decide +kernel
theorem xhat_304 {args : Array Value} {s : State} (hts : ∀ w ∈ wsG, w.before args s = true) (h : xE s) : ∀ w ∈ vx_at0 RX9 304 "java/lang/IllegalStateException" ["java/lang/RuntimeException", "java/lang/Exception"], w.before args s = true := vx_hat (fun w h => hts w (xat_304 w h)) xnb_304 (vx_c (va_Nw.use rfl (h.1 _ (by decide +kernel))) (vx_c (va_Nw.use rfl (h.2 _ (by decide +kernel))) (vx_c (va_Nw.use rfl (h.2 _ (by decide +kernel))) (vx_c (va_Nw.use rfl (h.2 _ (by decide +kernel))) vx_n))))

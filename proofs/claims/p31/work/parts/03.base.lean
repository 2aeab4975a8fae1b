/-- the nest mates' links of the class's own constructors -/
def xNl : List (String × Nat × MethodName × String) := [("PageSkeleton", 9, yX5_init, "PageSkeleton"), ("PageSkeleton", 46, yX3_init, "PageSkeleton"), ("PageSkeleton", 53, yX6_init, "PageSkeleton"), ("PageSkeleton", 60, yX0_init, "PageSkeleton"), ("PageSkeleton", 67, yX8_init, "PageSkeleton"), ("PageSkeleton", 89, yX1_init, "PageSkeleton"), ("PageSkeleton$Leaf", 39, yX7_init, "PageSkeleton")]
/-- what is asked of the tables beside the good words -/
def xN (U : State) : Prop := (∀ q ∈ xNl, va_Nw (.methodLinkNest q.1 q.2.1 q.2.2.1 q.2.2.2) U) ∧ mu_T U ∧ va_AO "PageSkeleton$Leaf" U ∧ va_AO "PageSkeleton$Row" U
theorem xN_call {U : State} {g : JFrame} {mk : MethodId} {a : Array Value} (h : xN U) : xN (U.calling g mk a) := h
theorem xN_warm {s U : State} (hW : s.WarmedH U.vm) (h : xN s) : xN U := ⟨fun q hq => va_Nw.warmM hW (h.1 q hq), ⟨word_at hW (Or.inr ⟨_, rfl⟩) h.2.1.1, Jvm.Stand.arrayOver_alikeB hW.alike h.2.1.2.1, Jvm.Stand.arrayOver_alikeB hW.alike h.2.1.2.2⟩, va_AO.moved hW.alike h.2.2.1, va_AO.moved hW.alike h.2.2.2⟩
theorem xN_nest {s : State} (h : xN s) (i : Nat) {a : String} {n : Nat} {y : MethodName} {b : String} (hi : xNl[i]? = some (a, n, y, b)) : va_Nw (.methodLinkNest a n y b) s := h.1 _ (List.mem_of_getElem? hi)
theorem gT_G {own : String} {idx : Nat} {y : MethodName} {cc : ByteArray} {n : Nat} {r : Option FieldType} (h1 : Cond.methodLink own idx y ∈ wsG) (h2 : Cond.static y ∈ wsG) (h4 : Cond.initialized y.cls ∈ wsG) (hc : Cond.code y cc n r ∈ wsG) : GoodIn wsG (va_wsS own idx y (Cond.code y cc n r :: wsG)) := by
  have k : ∀ w ∈ va_wsS own idx y (Cond.code y cc n r :: wsG), w ∈ wsG := by
    intro w hw
    simp only [va_wsS, List.cons_append, List.nil_append, List.mem_cons] at hw
    rcases hw with rfl | rfl | rfl | rfl | h
    · exact h1
    · exact h2
    · exact h4
    · exact hc
    · exact h
  exact fun w hw => ⟨k w hw, wsG_good (k w hw)⟩

/-! what the class needs of its nest; Math.max and min; copies from an array to an array -/
def xMl : List (String × Nat × MethodName × String) := [("PageSkeleton", 9, yX5_init, "PageSkeleton"), ("PageSkeleton", 46, yX3_init, "PageSkeleton"), ("PageSkeleton", 53, yX6_init, "PageSkeleton"), ("PageSkeleton", 60, yX0_init, "PageSkeleton"), ("PageSkeleton", 67, yX8_init, "PageSkeleton"), ("PageSkeleton", 89, yX1_init, "PageSkeleton"), ("PageSkeleton$Leaf", 39, yX7_init, "PageSkeleton"), ("PageSkeleton$Row", 58, yX9_isLeaf, "PageSkeleton"), ("PageSkeleton$Row", 62, yX9_isOpen, "PageSkeleton"), ("PageSkeleton$Row", 69, yX9_areAlike, "PageSkeleton"), ("PageSkeleton$Row", 76, yX9_fused, "PageSkeleton"), ("PageSkeleton$Tidier", 97, yX9_isTag, "PageSkeleton"), ("PageSkeleton$Walker", 64, yX9_isWord, "PageSkeleton"), ("PageSkeleton$Walker", 68, yX9_isLeaf, "PageSkeleton"), ("PageSkeleton$Layer", 85, yX9_isLeaf, "PageSkeleton"), ("PageSkeleton$Layer", 88, yX9_areAlike, "PageSkeleton"), ("PageSkeleton$Layer", 92, yX9_costOfFusing, "PageSkeleton"), ("PageSkeleton$Layer", 95, yX9_isOpen, "PageSkeleton"), ("PageSkeleton$Row", 73, yX9_costOfFusing, "PageSkeleton"), ("PageSkeleton$Layer", 132, yX9_fused, "PageSkeleton"), ("PageSkeleton$Row", 88, yX9_isTag, "PageSkeleton"), ("PageSkeleton$Row", 91, yX9_isWord, "PageSkeleton")]
def xM (U : State) : Prop := ∀ q ∈ xMl, va_Nw (.methodLinkNest q.1 q.2.1 q.2.2.1 q.2.2.2) U
theorem xM_warm {s U : State} (hW : s.WarmedH U.vm) (h : xM s) : xM U := fun q hq => va_Nw.warmM hW (h q hq)
theorem xM_nest {s : State} (h : xM s) (i : Nat) {a : String} {n : Nat} {y : MethodName} {b : String} (hi : xMl[i]? = some (a, n, y, b)) : va_Nw (.methodLinkNest a n y b) s := h _ (List.mem_of_getElem? hi)
theorem iZ_mx {x y : Int} (hx : inR x) (hy : inR y) : (if iZ x < iZ y then iZ y else iZ x) = iZ (max x y) := by
  by_cases h : x < y
  · rw [if_pos ((iZ_lt hx hy).mpr h), Int.max_eq_right (by omega)]
  · rw [if_neg (fun q => h ((iZ_lt hx hy).mp q)), Int.max_eq_left (by omega)]
theorem iZ_mn {x y : Int} (hx : inR x) (hy : inR y) : (if iZ y < iZ x then iZ y else iZ x) = iZ (min x y) := by
  by_cases h : y < x
  · rw [if_pos ((iZ_lt hy hx).mpr h), Int.min_eq_right (by omega)]
  · rw [if_neg (fun q => h ((iZ_lt hy hx).mp q)), Int.min_eq_left (by omega)]
/-- the memory when n words of cell k0 from sp on were copied to cell k1 from dp on -/
def uc (μ : va_M) (k0 sp k1 dp n : Nat) : va_M := fun a b => if a = k1 ∧ dp ≤ b ∧ b < dp + n then μ k0 (sp + (b - dp)) else μ a b
theorem uc_n {μ : va_M} {k0 sp k1 dp n a b : Nat} (h : ¬ (a = k1 ∧ dp ≤ b ∧ b < dp + n)) : uc μ k0 sp k1 dp n a b = μ a b := if_neg h
theorem uc_s {μ : va_M} {k0 sp k1 dp n b : Nat} (h : dp ≤ b ∧ b < dp + n) : uc μ k0 sp k1 dp n k1 b = μ k0 (sp + (b - dp)) := if_pos ⟨rfl, h⟩
theorem fw_copy {EE : va_EE} {h0 K k0 k1 sp dp n : Nat} {μ : va_M} : (fw EE h0 K μ).set k1 (h0 + k1, EE k1 (va_cpy (fun b => iZ (μ k0 b)) (fun b => iZ (μ k1 b)) sp dp n)) = fw EE h0 K (uc μ k0 sp k1 dp n) := by
  unfold fw
  rw [fl_set]
  congr 1
  funext a
  by_cases h : a = k1
  · subst h
    rw [if_pos rfl]
    congr 1
    funext b
    unfold va_cpy uc
    by_cases h9 : dp ≤ b ∧ b < dp + n
    · rw [if_pos h9, if_pos ⟨rfl, h9⟩]
    · rw [if_neg h9, if_neg (fun q => h9 q.2)]
  · rw [if_neg h]
    congr 1
    funext b
    rw [uc_n (fun q => h q.1)]
section FC
variable {p : Program} {l : Launch} {e : Env} {R : Room} {s : State} {m : MethodId} {args : Array Value} {below : List Frame} {meth : Method} {c : Code} {H : Heap} {locs : List Loc} {cells slots : Nat} {Q : State → Prop}
variable {cc : ByteArray} {pc : Nat} {ls : Array Slot} {rest : List Value} {D : va_G} {cl : List vw_C} {A : Nat → Prop} {tys : List (ClassId × FieldType)} {H0 : Heap} {EE : va_EE} {h0 K : Nat} {μ : va_M}
theorem fz_copy (hexec : p.tables.exec = Jvm.exec) (hb : c.code = cc) (hml : c.maxLocals = ls.size) {own : String} {index : Nat} (hown : s.vm.findClass own = some m.cls) (hlink : (Cond.methodLink own index arraycopyName).before args s = true) (hnat : (Cond.native arraycopyName).before args s = true) (hstat : (Cond.static arraycopyName).before args s = true) (hini : (Cond.initialized "java/lang/System").before args s = true)
    (hK : va_K D cl tys s) (hP : va_P D cl (fw EE h0 K μ) H) (hA : ∀ k, k < K → A (h0 + k)) (hS : va_S A H0 H locs) {k0 k1 n0 n1 : Nat} {cA : ClassId} (hk0 : k0 < K) (hk1 : k1 < K) (hE0 : ∀ f, EE k0 f = .inl (cA, n0, .inl f)) (hE1 : ∀ f, EE k1 f = .inl (cA, n1, .inl f)) (ht : tys[0]? = some (cA, .int)) (hn0 : n0 ≤ 1000000) (hn1 : n1 ≤ 1000000)
    {sp dp n : Int} (h1 : 0 ≤ sp) (h2 : 0 ≤ dp) (h3 : 0 ≤ n) (h4 : sp + n ≤ n0) (h5 : dp + n ≤ n1)
    (hframes : 1 ≤ R.frames) (hlocals : (rest.map fun v => v.category).sum + (nativeFrameWords "java/lang/System" "arraycopy" 5 + 11) ≤ R.locals) (hdg : decode cc pc = .ok (.invokestatic index, 3))
    (kk : ∀ (H1 : Heap) (locs1 : List Loc), va_P D cl (fw EE h0 K (uc μ k0 sp.toNat k1 dp.toNat n.toNat)) H1 → va_S A H0 H1 locs1 → W p l e R s m args below meth c H1 locs1 cells slots Q (F0 m (pc + 3) ls rest)) : W p l e R s m args below meth c H locs cells slots Q (F0 m pc ls (.int (iZ n) :: .int (iZ dp) :: .ref (h0 + k1) :: .int (iZ sp) :: .ref (h0 + k0) :: rest)) := by
  have nn : ∀ z : Int, 0 ≤ z → z ≤ 1000000 → ¬ iZ z < 0 := fun z a b h => by
    have h9 : iZ z < iZ 0 := h
    have := (iZ_lt (by constructor <;> omega) (by constructor <;> omega)).mp h9
    omega
  have e1 := iZ_clamp h1 (show sp < 2147483648 by omega)
  have e2 := iZ_clamp h2 (show dp < 2147483648 by omega)
  have e3 := iZ_clamp h3 (show n < 2147483648 by omega)
  refine va_copyi hexec hb hml hown hlink hnat hstat hini hK hP (fw_D hA) hS k0 k1 0 0 (f := fun j => iZ (μ k0 j)) (g := fun j => iZ (μ k1 j)) (by rw [fw_get hk0, hE0]) (by rw [fw_get hk1, hE1]) ht ht rfl (nn _ h1 (by omega)) (nn _ h2 (by omega)) (nn _ h3 (by omega)) (by rw [e1, e3]; omega) (by rw [e2, e3]; omega) (fun _ _ => rfl) hframes hlocals hdg (fun H1 locs1 hP1 _ hS1 => ?_)
  rw [e1, e2, e3, ← hE1, fw_copy] at hP1
  exact kk H1 locs1 hP1 hS1
end FC

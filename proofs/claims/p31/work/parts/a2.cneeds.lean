set_option maxRecDepth 100000 in
theorem k17 : (Cond.initialized "java/lang/IllegalArgumentException") ∈ wsG := wsG_a1 17 rfl rfl
set_option maxRecDepth 100000 in
theorem k18 : (Cond.initialized "java/lang/IllegalStateException") ∈ wsG := wsG_a1 18 rfl rfl
set_option maxRecDepth 100000 in
theorem k20 : (Cond.initialized "java/util/NoSuchElementException") ∈ wsG := wsG_a1 20 rfl rfl
set_option maxRecDepth 100000 in
theorem k101 : (Cond.fieldLink "PageSkeleton" (155 : Nat) "PageSkeleton$Row" "nodes" "I") ∈ wsG := wsG_a1 101 rfl rfl
set_option maxRecDepth 100000 in
theorem k301 : (Cond.fieldLink "PageSkeleton" (180 : Nat) "PageSkeleton$Leaf" "count" "I") ∈ wsG := wsG_a2 61 rfl rfl
set_option maxRecDepth 100000 in
theorem k600 : (Cond.classLink "PageSkeleton" (299 : Nat) "java/lang/IllegalArgumentException") ∈ wsG := wsG_a3 120 rfl rfl
set_option maxRecDepth 100000 in
theorem k667 : (Cond.classLink "PageSkeleton" (302 : Nat) "java/lang/IllegalStateException") ∈ wsG := wsG_a3 187 rfl rfl
set_option maxRecDepth 100000 in
theorem k735 : (Cond.methodLink "PageSkeleton" (130 : Nat) ({ cls := "PageSkeleton", name := "needPage", desc := "(I)V" } : MethodName)) ∈ wsG := wsG_a4 15 rfl rfl
set_option maxRecDepth 100000 in
theorem k737 : (Cond.instanceMethod ({ cls := "PageSkeleton", name := "needPage", desc := "(I)V" } : MethodName)) ∈ wsG := wsG_a4 17 rfl rfl
set_option maxRecDepth 100000 in
theorem k738 : (Cond.code ({ cls := "PageSkeleton", name := "needPage", desc := "(I)V" } : MethodName) prog_1_method_43_code (2 : Nat) (Option.none : Option Jvm.ClassFile.FieldType)) ∈ wsG := wsG_a4 18 rfl rfl
set_option maxRecDepth 100000 in
theorem k739 : (Cond.methodLink "PageSkeleton" (193 : Nat) ({ cls := "PageSkeleton", name := "needElement", desc := "(Z)V" } : MethodName)) ∈ wsG := wsG_a4 19 rfl rfl
set_option maxRecDepth 100000 in
theorem k741 : (Cond.instanceMethod ({ cls := "PageSkeleton", name := "needElement", desc := "(Z)V" } : MethodName)) ∈ wsG := wsG_a4 21 rfl rfl
set_option maxRecDepth 100000 in
theorem k742 : (Cond.code ({ cls := "PageSkeleton", name := "needElement", desc := "(Z)V" } : MethodName) prog_1_method_40_code (2 : Nat) (Option.none : Option Jvm.ClassFile.FieldType)) ∈ wsG := wsG_a4 22 rfl rfl
set_option maxRecDepth 100000 in
theorem k743 : (Cond.classLink "PageSkeleton" (296 : Nat) "java/util/NoSuchElementException") ∈ wsG := wsG_a4 23 rfl rfl
set_option maxRecDepth 100000 in
theorem ks_yX9_needElement : Cond.selects RX9 yX9_needElement yX9_needElement ∈ wsG := wsG_p 22 rfl rfl
set_option maxRecDepth 100000 in
theorem ks_yX9_needPage : Cond.selects RX9 yX9_needPage yX9_needPage ∈ wsG := wsG_p 21 rfl rfl
theorem dX9_needArgument_0 : decode cX9_needArgument 0 = .ok (.iload_n 1, 1) := by decide +kernel
theorem dX9_needArgument_1 : decode cX9_needArgument 1 = .ok (.ifCond .ne 21, 3) := by decide +kernel
theorem dX9_needArgument_4 : decode cX9_needArgument 4 = .ok (.aload_n 0, 1) := by decide +kernel
theorem dX9_needArgument_5 : decode cX9_needArgument 5 = .ok (.getfield 86, 3) := by decide +kernel
theorem dX9_needArgument_8 : decode cX9_needArgument 8 = .ok (.iconst 1, 1) := by decide +kernel
theorem dX9_needArgument_9 : decode cX9_needArgument 9 = .ok (.dup2, 1) := by decide +kernel
theorem dX9_needArgument_10 : decode cX9_needArgument 10 = .ok (.iaload, 1) := by decide +kernel
theorem dX9_needArgument_11 : decode cX9_needArgument 11 = .ok (.iconst 1, 1) := by decide +kernel
theorem dX9_needArgument_12 : decode cX9_needArgument 12 = .ok (.iadd, 1) := by decide +kernel
theorem dX9_needArgument_13 : decode cX9_needArgument 13 = .ok (.iastore, 1) := by decide +kernel
theorem dX9_needArgument_14 : decode cX9_needArgument 14 = .ok (.new 299, 3) := by decide +kernel
theorem dX9_needArgument_17 : decode cX9_needArgument 17 = .ok (.dup, 1) := by decide +kernel
theorem dX9_needArgument_18 : decode cX9_needArgument 18 = .ok (.invokespecial 301, 3) := by decide +kernel
theorem dX9_needArgument_21 : decode cX9_needArgument 21 = .ok (.athrow, 1) := by decide +kernel
theorem dX9_needArgument_22 : decode cX9_needArgument 22 = .ok (.return_, 1) := by decide +kernel
theorem dX9_needElement_0 : decode cX9_needElement 0 = .ok (.iload_n 1, 1) := by decide +kernel
theorem dX9_needElement_1 : decode cX9_needElement 1 = .ok (.ifCond .ne 21, 3) := by decide +kernel
theorem dX9_needElement_4 : decode cX9_needElement 4 = .ok (.aload_n 0, 1) := by decide +kernel
theorem dX9_needElement_5 : decode cX9_needElement 5 = .ok (.getfield 86, 3) := by decide +kernel
theorem dX9_needElement_8 : decode cX9_needElement 8 = .ok (.iconst 0, 1) := by decide +kernel
theorem dX9_needElement_9 : decode cX9_needElement 9 = .ok (.dup2, 1) := by decide +kernel
theorem dX9_needElement_10 : decode cX9_needElement 10 = .ok (.iaload, 1) := by decide +kernel
theorem dX9_needElement_11 : decode cX9_needElement 11 = .ok (.iconst 1, 1) := by decide +kernel
theorem dX9_needElement_12 : decode cX9_needElement 12 = .ok (.iadd, 1) := by decide +kernel
theorem dX9_needElement_13 : decode cX9_needElement 13 = .ok (.iastore, 1) := by decide +kernel
theorem dX9_needElement_14 : decode cX9_needElement 14 = .ok (.new 296, 3) := by decide +kernel
theorem dX9_needElement_17 : decode cX9_needElement 17 = .ok (.dup, 1) := by decide +kernel
theorem dX9_needElement_18 : decode cX9_needElement 18 = .ok (.invokespecial 298, 3) := by decide +kernel
theorem dX9_needElement_21 : decode cX9_needElement 21 = .ok (.athrow, 1) := by decide +kernel
theorem dX9_needElement_22 : decode cX9_needElement 22 = .ok (.return_, 1) := by decide +kernel
theorem dX9_needNode_0 : decode cX9_needNode 0 = .ok (.aload_n 0, 1) := by decide +kernel
theorem dX9_needNode_1 : decode cX9_needNode 1 = .ok (.iload_n 2, 1) := by decide +kernel
theorem dX9_needNode_2 : decode cX9_needNode 2 = .ok (.ifCond .lt 15, 3) := by decide +kernel
theorem dX9_needNode_5 : decode cX9_needNode 5 = .ok (.iload_n 2, 1) := by decide +kernel
theorem dX9_needNode_6 : decode cX9_needNode 6 = .ok (.aload_n 1, 1) := by decide +kernel
theorem dX9_needNode_7 : decode cX9_needNode 7 = .ok (.getfield 155, 3) := by decide +kernel
theorem dX9_needNode_10 : decode cX9_needNode 10 = .ok (.if_icmp .ge 7, 3) := by decide +kernel
theorem dX9_needNode_13 : decode cX9_needNode 13 = .ok (.iconst 1, 1) := by decide +kernel
theorem dX9_needNode_14 : decode cX9_needNode 14 = .ok (.goto 4, 3) := by decide +kernel
theorem dX9_needNode_17 : decode cX9_needNode 17 = .ok (.iconst 0, 1) := by decide +kernel
theorem dX9_needNode_18 : decode cX9_needNode 18 = .ok (.invokevirtual 193, 3) := by decide +kernel
theorem dX9_needNode_21 : decode cX9_needNode 21 = .ok (.return_, 1) := by decide +kernel
theorem dX9_needPage_0 : decode cX9_needPage 0 = .ok (.aload_n 0, 1) := by decide +kernel
theorem dX9_needPage_1 : decode cX9_needPage 1 = .ok (.iload_n 1, 1) := by decide +kernel
theorem dX9_needPage_2 : decode cX9_needPage 2 = .ok (.ifCond .lt 15, 3) := by decide +kernel
theorem dX9_needPage_5 : decode cX9_needPage 5 = .ok (.iload_n 1, 1) := by decide +kernel
theorem dX9_needPage_6 : decode cX9_needPage 6 = .ok (.aload_n 0, 1) := by decide +kernel
theorem dX9_needPage_7 : decode cX9_needPage 7 = .ok (.getfield 22, 3) := by decide +kernel
theorem dX9_needPage_10 : decode cX9_needPage 10 = .ok (.if_icmp .ge 7, 3) := by decide +kernel
theorem dX9_needPage_13 : decode cX9_needPage 13 = .ok (.iconst 1, 1) := by decide +kernel
theorem dX9_needPage_14 : decode cX9_needPage 14 = .ok (.goto 4, 3) := by decide +kernel
theorem dX9_needPage_17 : decode cX9_needPage 17 = .ok (.iconst 0, 1) := by decide +kernel
theorem dX9_needPage_18 : decode cX9_needPage 18 = .ok (.invokevirtual 193, 3) := by decide +kernel
theorem dX9_needPage_21 : decode cX9_needPage 21 = .ok (.return_, 1) := by decide +kernel
theorem dX9_needPlace_0 : decode cX9_needPlace 0 = .ok (.aload_n 0, 1) := by decide +kernel
theorem dX9_needPlace_1 : decode cX9_needPlace 1 = .ok (.iload_n 1, 1) := by decide +kernel
theorem dX9_needPlace_2 : decode cX9_needPlace 2 = .ok (.invokevirtual 130, 3) := by decide +kernel
theorem dX9_needPlace_5 : decode cX9_needPlace 5 = .ok (.aload_n 0, 1) := by decide +kernel
theorem dX9_needPlace_6 : decode cX9_needPlace 6 = .ok (.iload_n 2, 1) := by decide +kernel
theorem dX9_needPlace_7 : decode cX9_needPlace 7 = .ok (.ifCond .lt 20, 3) := by decide +kernel
theorem dX9_needPlace_10 : decode cX9_needPlace 10 = .ok (.iload_n 2, 1) := by decide +kernel
theorem dX9_needPlace_11 : decode cX9_needPlace 11 = .ok (.aload_n 0, 1) := by decide +kernel
theorem dX9_needPlace_12 : decode cX9_needPlace 12 = .ok (.getfield 18, 3) := by decide +kernel
theorem dX9_needPlace_15 : decode cX9_needPlace 15 = .ok (.iload_n 1, 1) := by decide +kernel
theorem dX9_needPlace_16 : decode cX9_needPlace 16 = .ok (.aaload, 1) := by decide +kernel
theorem dX9_needPlace_17 : decode cX9_needPlace 17 = .ok (.getfield 180, 3) := by decide +kernel
theorem dX9_needPlace_20 : decode cX9_needPlace 20 = .ok (.if_icmp .ge 7, 3) := by decide +kernel
theorem dX9_needPlace_23 : decode cX9_needPlace 23 = .ok (.iconst 1, 1) := by decide +kernel
theorem dX9_needPlace_24 : decode cX9_needPlace 24 = .ok (.goto 4, 3) := by decide +kernel
theorem dX9_needPlace_27 : decode cX9_needPlace 27 = .ok (.iconst 0, 1) := by decide +kernel
theorem dX9_needPlace_28 : decode cX9_needPlace 28 = .ok (.invokevirtual 193, 3) := by decide +kernel
theorem dX9_needPlace_31 : decode cX9_needPlace 31 = .ok (.return_, 1) := by decide +kernel
theorem dX9_needState_0 : decode cX9_needState 0 = .ok (.iload_n 1, 1) := by decide +kernel
theorem dX9_needState_1 : decode cX9_needState 1 = .ok (.ifCond .ne 21, 3) := by decide +kernel
theorem dX9_needState_4 : decode cX9_needState 4 = .ok (.aload_n 0, 1) := by decide +kernel
theorem dX9_needState_5 : decode cX9_needState 5 = .ok (.getfield 86, 3) := by decide +kernel
theorem dX9_needState_8 : decode cX9_needState 8 = .ok (.iconst 2, 1) := by decide +kernel
theorem dX9_needState_9 : decode cX9_needState 9 = .ok (.dup2, 1) := by decide +kernel
theorem dX9_needState_10 : decode cX9_needState 10 = .ok (.iaload, 1) := by decide +kernel
theorem dX9_needState_11 : decode cX9_needState 11 = .ok (.iconst 1, 1) := by decide +kernel
theorem dX9_needState_12 : decode cX9_needState 12 = .ok (.iadd, 1) := by decide +kernel
theorem dX9_needState_13 : decode cX9_needState 13 = .ok (.iastore, 1) := by decide +kernel
theorem dX9_needState_14 : decode cX9_needState 14 = .ok (.new 302, 3) := by decide +kernel
theorem dX9_needState_17 : decode cX9_needState 17 = .ok (.dup, 1) := by decide +kernel
theorem dX9_needState_18 : decode cX9_needState 18 = .ok (.invokespecial 304, 3) := by decide +kernel
theorem dX9_needState_21 : decode cX9_needState 21 = .ok (.athrow, 1) := by decide +kernel
theorem dX9_needState_22 : decode cX9_needState 22 = .ok (.return_, 1) := by decide +kernel
/-! throws, and cells that are returned -/
theorem xgo_298 : ∀ w ∈ Cond.classLink RX9 296 "java/util/NoSuchElementException" :: Cond.initialized "java/util/NoSuchElementException" :: vx_at0 RX9 298 "java/util/NoSuchElementException" ["java/lang/RuntimeException", "java/lang/Exception"], vx_ot w = true := by decide +kernel
theorem xgo_301 : ∀ w ∈ Cond.classLink RX9 299 "java/lang/IllegalArgumentException" :: Cond.initialized "java/lang/IllegalArgumentException" :: vx_at0 RX9 301 "java/lang/IllegalArgumentException" ["java/lang/RuntimeException", "java/lang/Exception"], vx_ot w = true := by decide +kernel
theorem xgo_304 : ∀ w ∈ Cond.classLink RX9 302 "java/lang/IllegalStateException" :: Cond.initialized "java/lang/IllegalStateException" :: vx_at0 RX9 304 "java/lang/IllegalStateException" ["java/lang/RuntimeException", "java/lang/Exception"], vx_ot w = true := by decide +kernel
theorem va_P_up {D : va_G} {cl : List vw_C} {ws : va_W} {H H1 : Heap} (h : va_P D cl ws H) (hq : ∀ q : Nat, q < H.size → H1[q]? = H[q]?) : va_P D cl ws H1 := h.kept (fun k q hk => hq q.1 (h k q hk).lt)
section WX
variable {p : Program} {l : Launch} {e : Env} {R : Room} {s : State} {m : MethodId} {args : Array Value} {below : List Frame} {meth : Method} {c : Code} {H : Heap} {locs : List Loc} {cells slots : Nat} {Q : State → Prop}
theorem W_widen {g : JFrame} {k n : Nat} (h1 : cells ≤ k) (h2 : slots ≤ n) (kk : W p l e R s m args below meth c H locs k n Q g) : W p l e R s m args below meth c H locs cells slots Q g := fun T hT X => kk T hT (stand_widen X h1 h2)
theorem W_aret {cc : ByteArray} {Qc : Array Value → State → Outcome → State → Prop} {free : Addr → Prop} {a : Nat} {cl : String} (hexec : p.tables.exec = Jvm.exec) (hb : c.code = cc) (hr : meth.sig.returnType = some (.object cl))
    (hq : ∀ t : State, t.heap = H → s.WarmedH t.vm → Qc args s (.returned (some (.ref a))) t) (hf : ∀ q ∈ locs, free q.base)
    {pc : Nat} {ls : Array Slot} (hdg : decode cc pc = .ok (.areturn, 1)) (hlocks : meth.locks = false := by assumption) : W p l e R s m args below meth c H locs cells slots (MQ below Qc args s cells slots free) (F0 m pc ls [.ref a]) := by
  intro T hT X
  have hlocks : meth.locks = false := hlocks
  obtain ⟨fs, hret, hrun, hended, hW, hframe⟩ := X.leave (v := some (.ref a)) (fun h => by rw [hr] at h; cases h)
  have hmeth' : T.vm.method? m = some meth := X.method'
  refine ⟨T.setFrames fs, ?_, .returned (some (.ref a)), hrun, hended, hq _ hT hW, locs, ⟨⟨_, rfl⟩, hW, hframe⟩, hf⟩
  jvm_step X.here [X.here.top, hexec, hb, hdg, hmeth', hr, narrow]
  (try refine ⟨rfl, ?_⟩); (try refine ⟨rfl, ?_⟩)
  first | (intro acts; rw [hret _ acts rfl rfl rfl]) | rw [hret _ _ rfl rfl rfl]
  exact Steps.refl _
end WX
set_option maxHeartbeats 4000000 in
set_option maxRecDepth 100000 in
theorem s_needElement (l : Launch) (dC : Nat → ClassId) (dI : Nat → Nat → Nat) (cI cZ cII cIII : ClassId) (h0 sz : Nat) (μ : va_M)   : Met l yX9_needElement (Cond.code yX9_needElement cX9_needElement 2 none :: wsG) ({ frames := 1, cells := 0, slots := 0, locals := 14 } : Room) (va_Pc [.ref h0, .int (iZ (1))] (fun U => U.heap.size = sz ∧ va_P (dC, dI) vwCl (fw (sE cI cZ cII cIII h0) h0 233 μ) U.heap ∧ va_K (dC, dI) vwCl (sT cI cZ cII cIII) U ∧ xM U)) (va_Qv (fun (u : va_M) => u = μ) (fun u t => va_P (dC, dI) vwCl (fw (sE cI cZ cII cIII h0) h0 233 u) t.heap ∧ va_K (dC, dI) vwCl (sT cI cZ cII cIII) t) (fA h0 233 sz)) 0 0 (fA h0 233 sz) := by
  refine Met.ofW (cc := cX9_needElement) (maxL := 2) (ret := none) (by decide) rfl ?_
  intro p e s m args below meth c s₁ B hml hv
  obtain ⟨rfl, hsz, hP, hK, hM⟩ := hv
  have hx := B.exec
  have hb := B.bytes
  have hr := B.returns
  have hts : ∀ w ∈ wsG, w.before _ s = true := hG_of (atoms_spec (ws := (Cond.code yX9_needElement cX9_needElement 2 none :: wsG)) B.pre)
  have hown : s.vm.findClass RX9 = some m.cls := findClass_of_methodNamed B.named
  have hlocks := B.notSynchronized
  subst hsz
  have hS : va_S (fA h0 233 s.heap.size) s.heap s.heap [] := va_S.rf
  have hl := lv_entry ([.ref h0, .int (iZ (1))]) (n := 2) (Nat.le_of_ble_eq_true rfl)
  rw [lg_entry_eq]
  generalize (lg_sl ([.ref h0, .int (iZ (1))]) ++ List.replicate (2 - (lg_sl ([.ref h0, .int (iZ (1))])).length) Slot.unset).toArray = ls at hl ⊢
  have hl : lv_has ls 2 [(0, .ref h0), (1, .int (iZ (1)))] := hl
  refine lv_iload_n hx hb dX9_needElement_0 rfl (lv_at hl 1 rfl) ?_
  refine fz_if_ne (tgt := 22) (by decide) hx hb dX9_needElement_1 (by decide) (fun c1_ => ?_) (fun h9 => absurd h9 (by decide))
  exact W.vret hx hb hr (fun t9 ht9 hW9 => ⟨⟨μ, rfl, (by
            try dsimp only
            all_goals exact rfl), by rw [ht9]; exact hP, va_K.moved hW9.alike hK⟩, hS.F ht9⟩) hS.2.2 dX9_needElement_22
set_option maxHeartbeats 4000000 in
set_option maxRecDepth 100000 in
theorem x_needElement (l : Launch) (hfl : l.stackTraces = false) (dC : Nat → ClassId) (dI : Nat → Nat → Nat) (cI cZ cII cIII : ClassId) (h0 sz : Nat) (μ : va_M)   : vx_Met l yX9_needElement (Cond.code yX9_needElement cX9_needElement 2 none :: wsG) ({ frames := 6, cells := 1, slots := 6, locals := 89 } : Room) (va_Pc [.ref h0, .int (iZ (0))] (fun U => U.heap.size = sz ∧ va_P (dC, dI) vwCl (fw (sE cI cZ cII cIII h0) h0 233 μ) U.heap ∧ va_K (dC, dI) vwCl (sT cI cZ cII cIII) U ∧ xM U ∧ xX (fA h0 233 sz) U)) (va_Qv (fun (u : va_M) => False) (fun u t => va_P (dC, dI) vwCl (fw (sE cI cZ cII cIII h0) h0 233 u) t.heap ∧ va_K (dC, dI) vwCl (sT cI cZ cII cIII) t) (fA h0 233 sz)) (vx_X (fun (u : va_M) => fr (fun x _ => x = 112) μ u) (fun E u t => E ∈ (["java/util/NoSuchElementException"] : List String) ∧ va_P (dC, dI) vwCl (fw (sE cI cZ cII cIII h0) h0 233 u) t.heap ∧ va_K (dC, dI) vwCl (sT cI cZ cII cIII) t) (fA h0 233 sz)) 1 6 (fA h0 233 sz) := by
  refine vx_ofW (cc := cX9_needElement) (maxL := 2) (ret := none) (by decide) rfl ?_
  intro p e s m args below meth c s₁ B hml hnt hv
  obtain ⟨rfl, hsz, hP, hK, hM, hEx⟩ := hv
  have hx := B.exec
  have hb := B.bytes
  have hr := B.returns
  have hts : ∀ w ∈ wsG, w.before _ s = true := hG_of (atoms_spec (ws := (Cond.code yX9_needElement cX9_needElement 2 none :: wsG)) B.pre)
  have hown : s.vm.findClass RX9 = some m.cls := findClass_of_methodNamed B.named
  have hlocks := B.notSynchronized
  subst hsz
  have hS : va_S (fA h0 233 s.heap.size) s.heap s.heap [] := va_S.rf
  have hl := lv_entry ([.ref h0, .int (iZ (0))]) (n := 2) (Nat.le_of_ble_eq_true rfl)
  rw [lg_entry_eq]
  generalize (lg_sl ([.ref h0, .int (iZ (0))]) ++ List.replicate (2 - (lg_sl ([.ref h0, .int (iZ (0))])).length) Slot.unset).toArray = ls at hl ⊢
  have hl : lv_has ls 2 [(0, .ref h0), (1, .int (iZ (0)))] := hl
  refine lv_iload_n hx hb dX9_needElement_0 rfl (lv_at hl 1 rfl) ?_
  refine fz_if_ne (tgt := 22) (by decide) hx hb dX9_needElement_1 (by decide) (fun h9 => absurd h9 (by decide)) (fun c1_ => ?_)
  refine lv_aload_n hx hb dX9_needElement_4 rfl (lv_at hl 0 rfl) ?_
  refine fz_get (D := (dC, dI)) (ci := 9) (v := .ref (h0 + 112)) (C := RX9) (T := TX9) (N := 15) hx hb hts inG9 hown hK hP (k := 0) (by decide) (F := (sF0 h0)) sE_0 rfl 14 (by decide) (hts _ k346) (fun _ h9 => h9) rfl dX9_needElement_5 ?_
  refine lv_iconst (v := iZ 0) hx hb dX9_needElement_8 rfl ?_
  refine lv_dup2_11 hx hb dX9_needElement_9 rfl rfl ?_
  refine fz_ld (k := 112) (n := 3) hx hb hK hP 0 (by decide) sE_112 rfl ⟨by (first | ((try clear c1_); (try clear hsz); (try clear hnt); (try clear s₁); omega) | omega), by (first | ((try clear c1_); (try clear hsz); (try clear hnt); (try clear s₁); omega) | omega)⟩ (by decide) dX9_needElement_10 ?_
  rw [show (0 : Int).toNat = 0 from rfl]
  refine lv_iconst (v := iZ 1) hx hb dX9_needElement_11 rfl ?_
  refine lv_iadd hx hb dX9_needElement_12 ?_
  refine lv_topi (fun x9 ex9 => ?_)
  obtain rfl : x9 = iZ ((μ 112 0) + 1) := ex9.trans (iZ_add _ _)
  refine fz_st (k := 112) (n := 3) (i := 0) (z := ((μ 112 0) + 1)) hx hb hK hP fA_in hS 0 (by decide) sE_112 rfl ⟨by (first | ((try clear ex9); (try clear c1_); (try clear hsz); (try clear hnt); (try clear s₁); omega) | omega), by (first | ((try clear ex9); (try clear c1_); (try clear hsz); (try clear hnt); (try clear s₁); omega) | omega)⟩ (by decide) dX9_needElement_13 (fun H locs hP hS => ?_)
  rw [show (0 : Int).toNat = 0 from rfl] at hP
  obtain ⟨μ1, eμ1⟩ : ∃ x : va_M, x = uz μ 112 0 ((μ 112 0) + 1) := ⟨_, rfl⟩
  rw [← eμ1] at hP
  exact vx_throw0 (names := ["java/lang/RuntimeException", "java/lang/Exception"]) hx hb hfl hown (by decide +kernel) (by decide +kernel) (hts _ k743) (hts _ k20) (xhat_298 hts hEx.2) xgo_298 hEx.1.1 hEx.1.2 hS (hl.1.trans hml.symm) dX9_needElement_14 dX9_needElement_17 dX9_needElement_18 dX9_needElement_21 (fun x hx9 => (hnt x hx9).elim) (Nat.le_of_ble_eq_true rfl) (Nat.le_of_ble_eq_true rfl) (Nat.le_of_ble_eq_true rfl) (Nat.le_of_ble_eq_true rfl) hlocks (fun t9 hvm9 h1 h2 => ⟨μ1, (by
            show fr (fun x _ => x = 112) μ μ1
            rw [eμ1]; exact fr_uz fr_rfl rfl), ⟨by decide, va_P_up hP h2, va_K.moved hvm9 hK⟩, Nat.le_trans hS.1 h1, fun q hq hn => (h2 q (Nat.lt_of_lt_of_le hq hS.1)).trans (hS.2.1 q hq hn)⟩) hS.2.2 (Nat.le_of_ble_eq_true rfl) (Nat.le_of_ble_eq_true rfl)
set_option maxHeartbeats 4000000 in
set_option maxRecDepth 100000 in
theorem s_needArgument (l : Launch) (dC : Nat → ClassId) (dI : Nat → Nat → Nat) (cI cZ cII cIII : ClassId) (h0 sz : Nat) (μ : va_M)   : Met l yX9_needArgument (Cond.code yX9_needArgument cX9_needArgument 2 none :: wsG) ({ frames := 1, cells := 0, slots := 0, locals := 14 } : Room) (va_Pc [.ref h0, .int (iZ (1))] (fun U => U.heap.size = sz ∧ va_P (dC, dI) vwCl (fw (sE cI cZ cII cIII h0) h0 233 μ) U.heap ∧ va_K (dC, dI) vwCl (sT cI cZ cII cIII) U ∧ xM U)) (va_Qv (fun (u : va_M) => u = μ) (fun u t => va_P (dC, dI) vwCl (fw (sE cI cZ cII cIII h0) h0 233 u) t.heap ∧ va_K (dC, dI) vwCl (sT cI cZ cII cIII) t) (fA h0 233 sz)) 0 0 (fA h0 233 sz) := by
  refine Met.ofW (cc := cX9_needArgument) (maxL := 2) (ret := none) (by decide) rfl ?_
  intro p e s m args below meth c s₁ B hml hv
  obtain ⟨rfl, hsz, hP, hK, hM⟩ := hv
  have hx := B.exec
  have hb := B.bytes
  have hr := B.returns
  have hts : ∀ w ∈ wsG, w.before _ s = true := hG_of (atoms_spec (ws := (Cond.code yX9_needArgument cX9_needArgument 2 none :: wsG)) B.pre)
  have hown : s.vm.findClass RX9 = some m.cls := findClass_of_methodNamed B.named
  have hlocks := B.notSynchronized
  subst hsz
  have hS : va_S (fA h0 233 s.heap.size) s.heap s.heap [] := va_S.rf
  have hl := lv_entry ([.ref h0, .int (iZ (1))]) (n := 2) (Nat.le_of_ble_eq_true rfl)
  rw [lg_entry_eq]
  generalize (lg_sl ([.ref h0, .int (iZ (1))]) ++ List.replicate (2 - (lg_sl ([.ref h0, .int (iZ (1))])).length) Slot.unset).toArray = ls at hl ⊢
  have hl : lv_has ls 2 [(0, .ref h0), (1, .int (iZ (1)))] := hl
  refine lv_iload_n hx hb dX9_needArgument_0 rfl (lv_at hl 1 rfl) ?_
  refine fz_if_ne (tgt := 22) (by decide) hx hb dX9_needArgument_1 (by decide) (fun c1_ => ?_) (fun h9 => absurd h9 (by decide))
  exact W.vret hx hb hr (fun t9 ht9 hW9 => ⟨⟨μ, rfl, (by
            try dsimp only
            all_goals exact rfl), by rw [ht9]; exact hP, va_K.moved hW9.alike hK⟩, hS.F ht9⟩) hS.2.2 dX9_needArgument_22
set_option maxHeartbeats 4000000 in
set_option maxRecDepth 100000 in
theorem x_needArgument (l : Launch) (hfl : l.stackTraces = false) (dC : Nat → ClassId) (dI : Nat → Nat → Nat) (cI cZ cII cIII : ClassId) (h0 sz : Nat) (μ : va_M)   : vx_Met l yX9_needArgument (Cond.code yX9_needArgument cX9_needArgument 2 none :: wsG) ({ frames := 6, cells := 1, slots := 6, locals := 89 } : Room) (va_Pc [.ref h0, .int (iZ (0))] (fun U => U.heap.size = sz ∧ va_P (dC, dI) vwCl (fw (sE cI cZ cII cIII h0) h0 233 μ) U.heap ∧ va_K (dC, dI) vwCl (sT cI cZ cII cIII) U ∧ xM U ∧ xX (fA h0 233 sz) U)) (va_Qv (fun (u : va_M) => False) (fun u t => va_P (dC, dI) vwCl (fw (sE cI cZ cII cIII h0) h0 233 u) t.heap ∧ va_K (dC, dI) vwCl (sT cI cZ cII cIII) t) (fA h0 233 sz)) (vx_X (fun (u : va_M) => fr (fun x _ => x = 112) μ u) (fun E u t => E ∈ (["java/lang/IllegalArgumentException"] : List String) ∧ va_P (dC, dI) vwCl (fw (sE cI cZ cII cIII h0) h0 233 u) t.heap ∧ va_K (dC, dI) vwCl (sT cI cZ cII cIII) t) (fA h0 233 sz)) 1 6 (fA h0 233 sz) := by
  refine vx_ofW (cc := cX9_needArgument) (maxL := 2) (ret := none) (by decide) rfl ?_
  intro p e s m args below meth c s₁ B hml hnt hv
  obtain ⟨rfl, hsz, hP, hK, hM, hEx⟩ := hv
  have hx := B.exec
  have hb := B.bytes
  have hr := B.returns
  have hts : ∀ w ∈ wsG, w.before _ s = true := hG_of (atoms_spec (ws := (Cond.code yX9_needArgument cX9_needArgument 2 none :: wsG)) B.pre)
  have hown : s.vm.findClass RX9 = some m.cls := findClass_of_methodNamed B.named
  have hlocks := B.notSynchronized
  subst hsz
  have hS : va_S (fA h0 233 s.heap.size) s.heap s.heap [] := va_S.rf
  have hl := lv_entry ([.ref h0, .int (iZ (0))]) (n := 2) (Nat.le_of_ble_eq_true rfl)
  rw [lg_entry_eq]
  generalize (lg_sl ([.ref h0, .int (iZ (0))]) ++ List.replicate (2 - (lg_sl ([.ref h0, .int (iZ (0))])).length) Slot.unset).toArray = ls at hl ⊢
  have hl : lv_has ls 2 [(0, .ref h0), (1, .int (iZ (0)))] := hl
  refine lv_iload_n hx hb dX9_needArgument_0 rfl (lv_at hl 1 rfl) ?_
  refine fz_if_ne (tgt := 22) (by decide) hx hb dX9_needArgument_1 (by decide) (fun h9 => absurd h9 (by decide)) (fun c1_ => ?_)
  refine lv_aload_n hx hb dX9_needArgument_4 rfl (lv_at hl 0 rfl) ?_
  refine fz_get (D := (dC, dI)) (ci := 9) (v := .ref (h0 + 112)) (C := RX9) (T := TX9) (N := 15) hx hb hts inG9 hown hK hP (k := 0) (by decide) (F := (sF0 h0)) sE_0 rfl 14 (by decide) (hts _ k346) (fun _ h9 => h9) rfl dX9_needArgument_5 ?_
  refine lv_iconst (v := iZ 1) hx hb dX9_needArgument_8 rfl ?_
  refine lv_dup2_11 hx hb dX9_needArgument_9 rfl rfl ?_
  refine fz_ld (k := 112) (n := 3) hx hb hK hP 0 (by decide) sE_112 rfl ⟨by (first | ((try clear c1_); (try clear hsz); (try clear hnt); (try clear s₁); omega) | omega), by (first | ((try clear c1_); (try clear hsz); (try clear hnt); (try clear s₁); omega) | omega)⟩ (by decide) dX9_needArgument_10 ?_
  rw [show (1 : Int).toNat = 1 from rfl]
  refine lv_iconst (v := iZ 1) hx hb dX9_needArgument_11 rfl ?_
  refine lv_iadd hx hb dX9_needArgument_12 ?_
  refine lv_topi (fun x9 ex9 => ?_)
  obtain rfl : x9 = iZ ((μ 112 1) + 1) := ex9.trans (iZ_add _ _)
  refine fz_st (k := 112) (n := 3) (i := 1) (z := ((μ 112 1) + 1)) hx hb hK hP fA_in hS 0 (by decide) sE_112 rfl ⟨by (first | ((try clear ex9); (try clear c1_); (try clear hsz); (try clear hnt); (try clear s₁); omega) | omega), by (first | ((try clear ex9); (try clear c1_); (try clear hsz); (try clear hnt); (try clear s₁); omega) | omega)⟩ (by decide) dX9_needArgument_13 (fun H locs hP hS => ?_)
  rw [show (1 : Int).toNat = 1 from rfl] at hP
  obtain ⟨μ1, eμ1⟩ : ∃ x : va_M, x = uz μ 112 1 ((μ 112 1) + 1) := ⟨_, rfl⟩
  rw [← eμ1] at hP
  exact vx_throw0 (names := ["java/lang/RuntimeException", "java/lang/Exception"]) hx hb hfl hown (by decide +kernel) (by decide +kernel) (hts _ k600) (hts _ k17) (xhat_301 hts hEx.2) xgo_301 hEx.1.1 hEx.1.2 hS (hl.1.trans hml.symm) dX9_needArgument_14 dX9_needArgument_17 dX9_needArgument_18 dX9_needArgument_21 (fun x hx9 => (hnt x hx9).elim) (Nat.le_of_ble_eq_true rfl) (Nat.le_of_ble_eq_true rfl) (Nat.le_of_ble_eq_true rfl) (Nat.le_of_ble_eq_true rfl) hlocks (fun t9 hvm9 h1 h2 => ⟨μ1, (by
            show fr (fun x _ => x = 112) μ μ1
            rw [eμ1]; exact fr_uz fr_rfl rfl), ⟨by decide, va_P_up hP h2, va_K.moved hvm9 hK⟩, Nat.le_trans hS.1 h1, fun q hq hn => (h2 q (Nat.lt_of_lt_of_le hq hS.1)).trans (hS.2.1 q hq hn)⟩) hS.2.2 (Nat.le_of_ble_eq_true rfl) (Nat.le_of_ble_eq_true rfl)
set_option maxHeartbeats 4000000 in
set_option maxRecDepth 100000 in
theorem s_needState (l : Launch) (dC : Nat → ClassId) (dI : Nat → Nat → Nat) (cI cZ cII cIII : ClassId) (h0 sz : Nat) (μ : va_M)   : Met l yX9_needState (Cond.code yX9_needState cX9_needState 2 none :: wsG) ({ frames := 1, cells := 0, slots := 0, locals := 14 } : Room) (va_Pc [.ref h0, .int (iZ (1))] (fun U => U.heap.size = sz ∧ va_P (dC, dI) vwCl (fw (sE cI cZ cII cIII h0) h0 233 μ) U.heap ∧ va_K (dC, dI) vwCl (sT cI cZ cII cIII) U ∧ xM U)) (va_Qv (fun (u : va_M) => u = μ) (fun u t => va_P (dC, dI) vwCl (fw (sE cI cZ cII cIII h0) h0 233 u) t.heap ∧ va_K (dC, dI) vwCl (sT cI cZ cII cIII) t) (fA h0 233 sz)) 0 0 (fA h0 233 sz) := by
  refine Met.ofW (cc := cX9_needState) (maxL := 2) (ret := none) (by decide) rfl ?_
  intro p e s m args below meth c s₁ B hml hv
  obtain ⟨rfl, hsz, hP, hK, hM⟩ := hv
  have hx := B.exec
  have hb := B.bytes
  have hr := B.returns
  have hts : ∀ w ∈ wsG, w.before _ s = true := hG_of (atoms_spec (ws := (Cond.code yX9_needState cX9_needState 2 none :: wsG)) B.pre)
  have hown : s.vm.findClass RX9 = some m.cls := findClass_of_methodNamed B.named
  have hlocks := B.notSynchronized
  subst hsz
  have hS : va_S (fA h0 233 s.heap.size) s.heap s.heap [] := va_S.rf
  have hl := lv_entry ([.ref h0, .int (iZ (1))]) (n := 2) (Nat.le_of_ble_eq_true rfl)
  rw [lg_entry_eq]
  generalize (lg_sl ([.ref h0, .int (iZ (1))]) ++ List.replicate (2 - (lg_sl ([.ref h0, .int (iZ (1))])).length) Slot.unset).toArray = ls at hl ⊢
  have hl : lv_has ls 2 [(0, .ref h0), (1, .int (iZ (1)))] := hl
  refine lv_iload_n hx hb dX9_needState_0 rfl (lv_at hl 1 rfl) ?_
  refine fz_if_ne (tgt := 22) (by decide) hx hb dX9_needState_1 (by decide) (fun c1_ => ?_) (fun h9 => absurd h9 (by decide))
  exact W.vret hx hb hr (fun t9 ht9 hW9 => ⟨⟨μ, rfl, (by
            try dsimp only
            all_goals exact rfl), by rw [ht9]; exact hP, va_K.moved hW9.alike hK⟩, hS.F ht9⟩) hS.2.2 dX9_needState_22
set_option maxHeartbeats 4000000 in
set_option maxRecDepth 100000 in
theorem x_needState (l : Launch) (hfl : l.stackTraces = false) (dC : Nat → ClassId) (dI : Nat → Nat → Nat) (cI cZ cII cIII : ClassId) (h0 sz : Nat) (μ : va_M)   : vx_Met l yX9_needState (Cond.code yX9_needState cX9_needState 2 none :: wsG) ({ frames := 6, cells := 1, slots := 6, locals := 89 } : Room) (va_Pc [.ref h0, .int (iZ (0))] (fun U => U.heap.size = sz ∧ va_P (dC, dI) vwCl (fw (sE cI cZ cII cIII h0) h0 233 μ) U.heap ∧ va_K (dC, dI) vwCl (sT cI cZ cII cIII) U ∧ xM U ∧ xX (fA h0 233 sz) U)) (va_Qv (fun (u : va_M) => False) (fun u t => va_P (dC, dI) vwCl (fw (sE cI cZ cII cIII h0) h0 233 u) t.heap ∧ va_K (dC, dI) vwCl (sT cI cZ cII cIII) t) (fA h0 233 sz)) (vx_X (fun (u : va_M) => fr (fun x _ => x = 112) μ u) (fun E u t => E ∈ (["java/lang/IllegalStateException"] : List String) ∧ va_P (dC, dI) vwCl (fw (sE cI cZ cII cIII h0) h0 233 u) t.heap ∧ va_K (dC, dI) vwCl (sT cI cZ cII cIII) t) (fA h0 233 sz)) 1 6 (fA h0 233 sz) := by
  refine vx_ofW (cc := cX9_needState) (maxL := 2) (ret := none) (by decide) rfl ?_
  intro p e s m args below meth c s₁ B hml hnt hv
  obtain ⟨rfl, hsz, hP, hK, hM, hEx⟩ := hv
  have hx := B.exec
  have hb := B.bytes
  have hr := B.returns
  have hts : ∀ w ∈ wsG, w.before _ s = true := hG_of (atoms_spec (ws := (Cond.code yX9_needState cX9_needState 2 none :: wsG)) B.pre)
  have hown : s.vm.findClass RX9 = some m.cls := findClass_of_methodNamed B.named
  have hlocks := B.notSynchronized
  subst hsz
  have hS : va_S (fA h0 233 s.heap.size) s.heap s.heap [] := va_S.rf
  have hl := lv_entry ([.ref h0, .int (iZ (0))]) (n := 2) (Nat.le_of_ble_eq_true rfl)
  rw [lg_entry_eq]
  generalize (lg_sl ([.ref h0, .int (iZ (0))]) ++ List.replicate (2 - (lg_sl ([.ref h0, .int (iZ (0))])).length) Slot.unset).toArray = ls at hl ⊢
  have hl : lv_has ls 2 [(0, .ref h0), (1, .int (iZ (0)))] := hl
  refine lv_iload_n hx hb dX9_needState_0 rfl (lv_at hl 1 rfl) ?_
  refine fz_if_ne (tgt := 22) (by decide) hx hb dX9_needState_1 (by decide) (fun h9 => absurd h9 (by decide)) (fun c1_ => ?_)
  refine lv_aload_n hx hb dX9_needState_4 rfl (lv_at hl 0 rfl) ?_
  refine fz_get (D := (dC, dI)) (ci := 9) (v := .ref (h0 + 112)) (C := RX9) (T := TX9) (N := 15) hx hb hts inG9 hown hK hP (k := 0) (by decide) (F := (sF0 h0)) sE_0 rfl 14 (by decide) (hts _ k346) (fun _ h9 => h9) rfl dX9_needState_5 ?_
  refine lv_iconst (v := iZ 2) hx hb dX9_needState_8 rfl ?_
  refine lv_dup2_11 hx hb dX9_needState_9 rfl rfl ?_
  refine fz_ld (k := 112) (n := 3) hx hb hK hP 0 (by decide) sE_112 rfl ⟨by (first | ((try clear c1_); (try clear hsz); (try clear hnt); (try clear s₁); omega) | omega), by (first | ((try clear c1_); (try clear hsz); (try clear hnt); (try clear s₁); omega) | omega)⟩ (by decide) dX9_needState_10 ?_
  rw [show (2 : Int).toNat = 2 from rfl]
  refine lv_iconst (v := iZ 1) hx hb dX9_needState_11 rfl ?_
  refine lv_iadd hx hb dX9_needState_12 ?_
  refine lv_topi (fun x9 ex9 => ?_)
  obtain rfl : x9 = iZ ((μ 112 2) + 1) := ex9.trans (iZ_add _ _)
  refine fz_st (k := 112) (n := 3) (i := 2) (z := ((μ 112 2) + 1)) hx hb hK hP fA_in hS 0 (by decide) sE_112 rfl ⟨by (first | ((try clear ex9); (try clear c1_); (try clear hsz); (try clear hnt); (try clear s₁); omega) | omega), by (first | ((try clear ex9); (try clear c1_); (try clear hsz); (try clear hnt); (try clear s₁); omega) | omega)⟩ (by decide) dX9_needState_13 (fun H locs hP hS => ?_)
  rw [show (2 : Int).toNat = 2 from rfl] at hP
  obtain ⟨μ1, eμ1⟩ : ∃ x : va_M, x = uz μ 112 2 ((μ 112 2) + 1) := ⟨_, rfl⟩
  rw [← eμ1] at hP
  exact vx_throw0 (names := ["java/lang/RuntimeException", "java/lang/Exception"]) hx hb hfl hown (by decide +kernel) (by decide +kernel) (hts _ k667) (hts _ k18) (xhat_304 hts hEx.2) xgo_304 hEx.1.1 hEx.1.2 hS (hl.1.trans hml.symm) dX9_needState_14 dX9_needState_17 dX9_needState_18 dX9_needState_21 (fun x hx9 => (hnt x hx9).elim) (Nat.le_of_ble_eq_true rfl) (Nat.le_of_ble_eq_true rfl) (Nat.le_of_ble_eq_true rfl) (Nat.le_of_ble_eq_true rfl) hlocks (fun t9 hvm9 h1 h2 => ⟨μ1, (by
            show fr (fun x _ => x = 112) μ μ1
            rw [eμ1]; exact fr_uz fr_rfl rfl), ⟨by decide, va_P_up hP h2, va_K.moved hvm9 hK⟩, Nat.le_trans hS.1 h1, fun q hq hn => (h2 q (Nat.lt_of_lt_of_le hq hS.1)).trans (hS.2.1 q hq hn)⟩) hS.2.2 (Nat.le_of_ble_eq_true rfl) (Nat.le_of_ble_eq_true rfl)
set_option maxHeartbeats 4000000 in
set_option maxRecDepth 100000 in
theorem s_needPage (l : Launch) (dC : Nat → ClassId) (dI : Nat → Nat → Nat) (cI cZ cII cIII : ClassId) (h0 sz : Nat) (μ : va_M) (pg : Int) (hpr : inR pg) (hlc : 0 ≤ μ 0 2 ∧ μ 0 2 ≤ 8) (hc : 0 ≤ pg ∧ pg < μ 0 2) : Met l yX9_needPage (Cond.code yX9_needPage cX9_needPage 2 none :: wsG) ({ frames := 2, cells := 0, slots := 0, locals := 35 } : Room) (va_Pc [.ref h0, .int (iZ (pg))] (fun U => U.heap.size = sz ∧ va_P (dC, dI) vwCl (fw (sE cI cZ cII cIII h0) h0 233 μ) U.heap ∧ va_K (dC, dI) vwCl (sT cI cZ cII cIII) U ∧ xM U)) (va_Qv (fun (u : va_M) => u = μ) (fun u t => va_P (dC, dI) vwCl (fw (sE cI cZ cII cIII h0) h0 233 u) t.heap ∧ va_K (dC, dI) vwCl (sT cI cZ cII cIII) t) (fA h0 233 sz)) 0 0 (fA h0 233 sz) := by
  refine Met.ofW (cc := cX9_needPage) (maxL := 2) (ret := none) (by decide) rfl ?_
  intro p e s m args below meth c s₁ B hml hv
  obtain ⟨rfl, hsz, hP, hK, hM⟩ := hv
  have hx := B.exec
  have hb := B.bytes
  have hr := B.returns
  have hts : ∀ w ∈ wsG, w.before _ s = true := hG_of (atoms_spec (ws := (Cond.code yX9_needPage cX9_needPage 2 none :: wsG)) B.pre)
  have hown : s.vm.findClass RX9 = some m.cls := findClass_of_methodNamed B.named
  have hlocks := B.notSynchronized
  subst hsz
  have hS : va_S (fA h0 233 s.heap.size) s.heap s.heap [] := va_S.rf
  have hl := lv_entry ([.ref h0, .int (iZ (pg))]) (n := 2) (Nat.le_of_ble_eq_true rfl)
  rw [lg_entry_eq]
  generalize (lg_sl ([.ref h0, .int (iZ (pg))]) ++ List.replicate (2 - (lg_sl ([.ref h0, .int (iZ (pg))])).length) Slot.unset).toArray = ls at hl ⊢
  have hl : lv_has ls 2 [(0, .ref h0), (1, .int (iZ (pg)))] := hl
  refine lv_aload_n hx hb dX9_needPage_0 rfl (lv_at hl 0 rfl) ?_
  refine lv_iload_n hx hb dX9_needPage_1 rfl (lv_at hl 1 rfl) ?_
  refine fz_if_lt (tgt := 17) (by first | (constructor <;> (first | ((try clear hsz); (try clear s₁); (try clear hlc); omega) | omega)) | assumption) hx hb dX9_needPage_2 (by decide) (fun h9 => (by (first | ((try clear hsz); (try clear s₁); (try clear hlc); omega) | omega))) (fun c2_ => ?_)
  refine lv_iload_n hx hb dX9_needPage_5 rfl (lv_at hl 1 rfl) ?_
  refine lv_aload_n hx hb dX9_needPage_6 rfl (lv_at hl 0 rfl) ?_
  refine fz_get (D := (dC, dI)) (ci := 9) (v := .int (iZ (μ 0 2))) (C := RX9) (T := TX9) (N := 15) hx hb hts inG9 hown hK hP (k := 0) (by decide) (F := (sF0 h0)) sE_0 rfl 2 (by decide) (hts _ k334) (fun _ h9 => h9) rfl dX9_needPage_7 ?_
  refine fz_icmp_ge (tgt := 17) (by first | (constructor <;> (first | ((try clear c2_); (try clear hsz); (try clear s₁); (try clear hlc); omega) | omega)) | assumption) (by first | (constructor <;> (first | ((try clear c2_); (try clear hsz); (try clear s₁); (try clear hc); omega) | omega)) | assumption) hx hb dX9_needPage_10 (by decide) (fun h9 => (by (first | ((try clear c2_); (try clear hsz); (try clear s₁); (try clear hlc); omega) | omega))) (fun c10_ => ?_)
  refine lv_iconst (v := iZ 1) hx hb dX9_needPage_13 rfl ?_
  refine lv_goto (tgt := 18) hx hb dX9_needPage_14 (by decide) ?_
  refine va_callv (va_runV (As := [.int (iZ (1))]) (rest := []) ⟨hx, hb, hml, hown, hts⟩ (s_needElement l dC dI cI cZ cII cIII h0 s.heap.size μ  ) (cwV 1 hts (gV_G k739 k741 ks_yX9_needElement k1 k742) rfl rfl rfl (by decide +kernel) ⟨Nat.le_of_ble_eq_true rfl, Nat.le_of_ble_eq_true rfl⟩) ⟨fun a U g mk q => by obtain ⟨q0, q1, qP, qK, qM⟩ := q; exact ⟨q0, q1, qP, va_K.moved (u := U) (U := U.calling g mk a) (Vm.Alike.refl U.vm) qK, qM⟩, va_recv hK hP (ci := 9) (q0 := 0) rfl ((fw_get (by decide)).trans (by rw [sE_0]; rfl)), fun U hU hW => ⟨rfl, by rw [hU], by rw [hU]; exact hP, va_K.moved hW.alike hK, xM_warm hW hM⟩⟩ rfl rfl hl.1 rfl (lv_room (Nat.le_of_ble_eq_true rfl)) dX9_needPage_18 ⟨Nat.le_of_ble_eq_true rfl, Nat.le_of_ble_eq_true rfl⟩) hS (fun q _ h => fA_le hS.1 q h) (fA_le hS.1) (fun u9 t9 H1 locs ht9 hvm9 hw9 hB9 hz9 hk9 hS => ?_)
  obtain ⟨hP, -⟩ := hB9
  rw [ht9] at hP
  generalize H1 = H at hP hS ⊢
  obtain ⟨μ1, eμ1⟩ : ∃ x : va_M, x = u9 := ⟨_, rfl⟩
  rw [← eμ1] at hP hw9
  have hμ1 := hw9; clear hw9
  rw [hμ1] at hP
  exact W.vret hx hb hr (fun t9 ht9 hW9 => ⟨⟨μ, rfl, (by
            try dsimp only
            all_goals exact rfl), by rw [ht9]; exact hP, va_K.moved hW9.alike hK⟩, hS.F ht9⟩) hS.2.2 dX9_needPage_21
set_option maxHeartbeats 4000000 in
set_option maxRecDepth 100000 in
theorem x_needPage (l : Launch) (hfl : l.stackTraces = false) (dC : Nat → ClassId) (dI : Nat → Nat → Nat) (cI cZ cII cIII : ClassId) (h0 sz : Nat) (μ : va_M) (pg : Int) (hpr : inR pg) (hlc : 0 ≤ μ 0 2 ∧ μ 0 2 ≤ 8) (hc : ¬ (0 ≤ pg ∧ pg < μ 0 2)) : vx_Met l yX9_needPage (Cond.code yX9_needPage cX9_needPage 2 none :: wsG) ({ frames := 7, cells := 1, slots := 6, locals := 110 } : Room) (va_Pc [.ref h0, .int (iZ (pg))] (fun U => U.heap.size = sz ∧ va_P (dC, dI) vwCl (fw (sE cI cZ cII cIII h0) h0 233 μ) U.heap ∧ va_K (dC, dI) vwCl (sT cI cZ cII cIII) U ∧ xM U ∧ xX (fA h0 233 sz) U)) (va_Qv (fun (u : va_M) => False) (fun u t => va_P (dC, dI) vwCl (fw (sE cI cZ cII cIII h0) h0 233 u) t.heap ∧ va_K (dC, dI) vwCl (sT cI cZ cII cIII) t) (fA h0 233 sz)) (vx_X (fun (u : va_M) => fr (fun x _ => x = 112) μ u) (fun E u t => E ∈ (["java/util/NoSuchElementException"] : List String) ∧ va_P (dC, dI) vwCl (fw (sE cI cZ cII cIII h0) h0 233 u) t.heap ∧ va_K (dC, dI) vwCl (sT cI cZ cII cIII) t) (fA h0 233 sz)) 1 6 (fA h0 233 sz) := by
  refine vx_ofW (cc := cX9_needPage) (maxL := 2) (ret := none) (by decide) rfl ?_
  intro p e s m args below meth c s₁ B hml hnt hv
  obtain ⟨rfl, hsz, hP, hK, hM, hEx⟩ := hv
  have hx := B.exec
  have hb := B.bytes
  have hr := B.returns
  have hts : ∀ w ∈ wsG, w.before _ s = true := hG_of (atoms_spec (ws := (Cond.code yX9_needPage cX9_needPage 2 none :: wsG)) B.pre)
  have hown : s.vm.findClass RX9 = some m.cls := findClass_of_methodNamed B.named
  have hlocks := B.notSynchronized
  subst hsz
  have hS : va_S (fA h0 233 s.heap.size) s.heap s.heap [] := va_S.rf
  have hl := lv_entry ([.ref h0, .int (iZ (pg))]) (n := 2) (Nat.le_of_ble_eq_true rfl)
  rw [lg_entry_eq]
  generalize (lg_sl ([.ref h0, .int (iZ (pg))]) ++ List.replicate (2 - (lg_sl ([.ref h0, .int (iZ (pg))])).length) Slot.unset).toArray = ls at hl ⊢
  have hl : lv_has ls 2 [(0, .ref h0), (1, .int (iZ (pg)))] := hl
  refine lv_aload_n hx hb dX9_needPage_0 rfl (lv_at hl 0 rfl) ?_
  refine lv_iload_n hx hb dX9_needPage_1 rfl (lv_at hl 1 rfl) ?_
  refine fz_if_lt (tgt := 17) (by first | (constructor <;> (first | ((try clear hsz); (try clear hnt); (try clear s₁); (try clear hc); (try clear hlc); omega) | omega)) | assumption) hx hb dX9_needPage_2 (by decide) (fun c2_ => ?_) (fun c2_ => ?_)
  · refine lv_iconst (v := iZ 0) hx hb dX9_needPage_17 rfl ?_
    refine vx_callv (vx_runV (As := [.int (iZ (0))]) (rest := []) ⟨hx, hb, hml, hown, hts⟩ (x_needElement l hfl dC dI cI cZ cII cIII h0 s.heap.size μ  ) (cwV 1 hts (gV_G k739 k741 ks_yX9_needElement k1 k742) rfl rfl rfl (by decide +kernel) ⟨Nat.le_of_ble_eq_true rfl, Nat.le_of_ble_eq_true rfl⟩) ⟨fun a U g mk q => by obtain ⟨q0, q1, qP, qK, qM, qE⟩ := q; exact ⟨q0, q1, qP, va_K.moved (u := U) (U := U.calling g mk a) (Vm.Alike.refl U.vm) qK, qM, xX_call qE⟩, va_recv hK hP (ci := 9) (q0 := 0) rfl ((fw_get (by decide)).trans (by rw [sE_0]; rfl)), fun U hU hW => ⟨rfl, by rw [hU], by rw [hU]; exact hP, va_K.moved hW.alike hK, xM_warm hW hM, xX_at hEx hS (fun q h => fA_le hS.1 q h) hU hW⟩⟩ rfl rfl hl.1 rfl (lv_room (Nat.le_of_ble_eq_true rfl)) dX9_needPage_18 ⟨Nat.le_of_ble_eq_true rfl, Nat.le_of_ble_eq_true rfl⟩) hS (fun q _ h => fA_le hS.1 q h) (fA_le hS.1) (fun q _ h => fA_le hS.1 q h) (fun E9 ce9 q9 u9 t9 H1 locs ht9 hvm9 hpx9 hBX9 hz9 hk9 hS hce9 hcv9 hcl9 => ?_) (fun u9 t9 H1 locs ht9 hvm9 hw9 hB9 hz9 hk9 hS => hw9.elim)
    obtain ⟨hE9, hP9, hK9⟩ := hBX9
    exact vx_out (fun x hx9 => (hnt x hx9).elim) hlocks hce9 hcv9 hcl9 (fun t8 ht8 hW8 => ⟨u9, (by
                show fr (fun x _ => x = 112) μ u9
                exact hpx9), ⟨hE9, by rw [ht8, ← ht9]; exact hP9, va_K.moved hW8 hK⟩, hS.F ht8⟩) hS.2.2 (Nat.le_of_ble_eq_true rfl) (Nat.le_of_ble_eq_true rfl)
  · refine lv_iload_n hx hb dX9_needPage_5 rfl (lv_at hl 1 rfl) ?_
    refine lv_aload_n hx hb dX9_needPage_6 rfl (lv_at hl 0 rfl) ?_
    refine fz_get (D := (dC, dI)) (ci := 9) (v := .int (iZ (μ 0 2))) (C := RX9) (T := TX9) (N := 15) hx hb hts inG9 hown hK hP (k := 0) (by decide) (F := (sF0 h0)) sE_0 rfl 2 (by decide) (hts _ k334) (fun _ h9 => h9) rfl dX9_needPage_7 ?_
    refine fz_icmp_ge (tgt := 17) (by first | (constructor <;> (first | ((try clear hsz); (try clear hnt); (try clear s₁); (try clear hc); (try clear hlc); omega) | omega)) | assumption) (by first | (constructor <;> (first | ((try clear c2_); (try clear hsz); (try clear hnt); (try clear s₁); (try clear hc); omega) | omega)) | assumption) hx hb dX9_needPage_10 (by decide) (fun c10_ => ?_) (fun h9 => (by (first | ((try clear c10_); (try clear hsz); (try clear hnt); (try clear s₁); (try clear hlc); omega) | omega)))
    refine lv_iconst (v := iZ 0) hx hb dX9_needPage_17 rfl ?_
    refine vx_callv (vx_runV (As := [.int (iZ (0))]) (rest := []) ⟨hx, hb, hml, hown, hts⟩ (x_needElement l hfl dC dI cI cZ cII cIII h0 s.heap.size μ  ) (cwV 1 hts (gV_G k739 k741 ks_yX9_needElement k1 k742) rfl rfl rfl (by decide +kernel) ⟨Nat.le_of_ble_eq_true rfl, Nat.le_of_ble_eq_true rfl⟩) ⟨fun a U g mk q => by obtain ⟨q0, q1, qP, qK, qM, qE⟩ := q; exact ⟨q0, q1, qP, va_K.moved (u := U) (U := U.calling g mk a) (Vm.Alike.refl U.vm) qK, qM, xX_call qE⟩, va_recv hK hP (ci := 9) (q0 := 0) rfl ((fw_get (by decide)).trans (by rw [sE_0]; rfl)), fun U hU hW => ⟨rfl, by rw [hU], by rw [hU]; exact hP, va_K.moved hW.alike hK, xM_warm hW hM, xX_at hEx hS (fun q h => fA_le hS.1 q h) hU hW⟩⟩ rfl rfl hl.1 rfl (lv_room (Nat.le_of_ble_eq_true rfl)) dX9_needPage_18 ⟨Nat.le_of_ble_eq_true rfl, Nat.le_of_ble_eq_true rfl⟩) hS (fun q _ h => fA_le hS.1 q h) (fA_le hS.1) (fun q _ h => fA_le hS.1 q h) (fun E9 ce9 q9 u9 t9 H1 locs ht9 hvm9 hpx9 hBX9 hz9 hk9 hS hce9 hcv9 hcl9 => ?_) (fun u9 t9 H1 locs ht9 hvm9 hw9 hB9 hz9 hk9 hS => hw9.elim)
    obtain ⟨hE9, hP9, hK9⟩ := hBX9
    exact vx_out (fun x hx9 => (hnt x hx9).elim) hlocks hce9 hcv9 hcl9 (fun t8 ht8 hW8 => ⟨u9, (by
                show fr (fun x _ => x = 112) μ u9
                exact hpx9), ⟨hE9, by rw [ht8, ← ht9]; exact hP9, va_K.moved hW8 hK⟩, hS.F ht8⟩) hS.2.2 (Nat.le_of_ble_eq_true rfl) (Nat.le_of_ble_eq_true rfl)
set_option maxHeartbeats 4000000 in
set_option maxRecDepth 100000 in
theorem s_needPlace (l : Launch) (dC : Nat → ClassId) (dI : Nat → Nat → Nat) (cI cZ cII cIII : ClassId) (h0 sz : Nat) (μ : va_M) (pg : Int) (kn : Int) (hpr : inR pg) (hlc : 0 ≤ μ 0 2 ∧ μ 0 2 ≤ 8) (hkr : inR kn) (hcn : ∀ i : Nat, i < 8 → inR (μ (113 + i * 15) 2)) (hc : (0 ≤ pg ∧ pg < μ 0 2) ∧ 0 ≤ kn ∧ kn < μ (113 + (pg).toNat * 15) 2) : Met l yX9_needPlace (Cond.code yX9_needPlace cX9_needPlace 3 none :: wsG) ({ frames := 3, cells := 0, slots := 0, locals := 56 } : Room) (va_Pc [.ref h0, .int (iZ (pg)), .int (iZ (kn))] (fun U => U.heap.size = sz ∧ va_P (dC, dI) vwCl (fw (sE cI cZ cII cIII h0) h0 233 μ) U.heap ∧ va_K (dC, dI) vwCl (sT cI cZ cII cIII) U ∧ xM U)) (va_Qv (fun (u : va_M) => u = μ) (fun u t => va_P (dC, dI) vwCl (fw (sE cI cZ cII cIII h0) h0 233 u) t.heap ∧ va_K (dC, dI) vwCl (sT cI cZ cII cIII) t) (fA h0 233 sz)) 0 0 (fA h0 233 sz) := by
  refine Met.ofW (cc := cX9_needPlace) (maxL := 3) (ret := none) (by decide) rfl ?_
  intro p e s m args below meth c s₁ B hml hv
  obtain ⟨rfl, hsz, hP, hK, hM⟩ := hv
  have hx := B.exec
  have hb := B.bytes
  have hr := B.returns
  have hts : ∀ w ∈ wsG, w.before _ s = true := hG_of (atoms_spec (ws := (Cond.code yX9_needPlace cX9_needPlace 3 none :: wsG)) B.pre)
  have hown : s.vm.findClass RX9 = some m.cls := findClass_of_methodNamed B.named
  have hlocks := B.notSynchronized
  subst hsz
  have hS : va_S (fA h0 233 s.heap.size) s.heap s.heap [] := va_S.rf
  have hl := lv_entry ([.ref h0, .int (iZ (pg)), .int (iZ (kn))]) (n := 3) (Nat.le_of_ble_eq_true rfl)
  rw [lg_entry_eq]
  generalize (lg_sl ([.ref h0, .int (iZ (pg)), .int (iZ (kn))]) ++ List.replicate (3 - (lg_sl ([.ref h0, .int (iZ (pg)), .int (iZ (kn))])).length) Slot.unset).toArray = ls at hl ⊢
  have hl : lv_has ls 3 [(0, .ref h0), (1, .int (iZ (pg))), (2, .int (iZ (kn)))] := hl
  refine lv_aload_n hx hb dX9_needPlace_0 rfl (lv_at hl 0 rfl) ?_
  refine lv_iload_n hx hb dX9_needPlace_1 rfl (lv_at hl 1 rfl) ?_
  refine va_callv (va_runV (As := [.int (iZ (pg))]) (rest := []) ⟨hx, hb, hml, hown, hts⟩ (s_needPage l dC dI cI cZ cII cIII h0 s.heap.size μ (pg) (by assumption) (by first | assumption | omega | exact ⟨by omega, by omega⟩) (by first | assumption | (first | ((try clear hsz); (try clear s₁); (try clear hcn); (try clear hlc); omega) | omega) | exact ⟨by omega, by omega⟩)) (cwV 1 hts (gV_G k735 k737 ks_yX9_needPage k1 k738) rfl rfl rfl (by decide +kernel) ⟨Nat.le_of_ble_eq_true rfl, Nat.le_of_ble_eq_true rfl⟩) ⟨fun a U g mk q => by obtain ⟨q0, q1, qP, qK, qM⟩ := q; exact ⟨q0, q1, qP, va_K.moved (u := U) (U := U.calling g mk a) (Vm.Alike.refl U.vm) qK, qM⟩, va_recv hK hP (ci := 9) (q0 := 0) rfl ((fw_get (by decide)).trans (by rw [sE_0]; rfl)), fun U hU hW => ⟨rfl, by rw [hU], by rw [hU]; exact hP, va_K.moved hW.alike hK, xM_warm hW hM⟩⟩ rfl rfl hl.1 rfl (lv_room (Nat.le_of_ble_eq_true rfl)) dX9_needPlace_2 ⟨Nat.le_of_ble_eq_true rfl, Nat.le_of_ble_eq_true rfl⟩) hS (fun q _ h => fA_le hS.1 q h) (fA_le hS.1) (fun u9 t9 H1 locs ht9 hvm9 hw9 hB9 hz9 hk9 hS => ?_)
  obtain ⟨hP, -⟩ := hB9
  rw [ht9] at hP
  generalize H1 = H at hP hS ⊢
  obtain ⟨μ1, eμ1⟩ : ∃ x : va_M, x = u9 := ⟨_, rfl⟩
  rw [← eμ1] at hP hw9
  have hμ1 := hw9; clear hw9
  rw [hμ1] at hP
  have hcp := hcn pg.toNat (by (first | ((try clear hcp); (try clear hμ1); (try clear x); (try clear eμ1); (try clear μ1); (try clear hz9); (try clear hsz); (try clear s₁); (try clear hcn); omega) | omega))
  refine lv_aload_n hx hb dX9_needPlace_5 rfl (lv_at hl 0 rfl) ?_
  refine lv_iload_n hx hb dX9_needPlace_6 rfl (lv_at hl 2 rfl) ?_
  refine fz_if_lt (tgt := 27) (by first | (constructor <;> (first | ((try clear hcp); (try clear hμ1); (try clear x); (try clear eμ1); (try clear μ1); (try clear hz9); (try clear hsz); (try clear s₁); (try clear hcn); (try clear hlc); omega) | omega)) | assumption) hx hb dX9_needPlace_7 (by decide) (fun h9 => (by (first | ((try clear hcp); (try clear hμ1); (try clear x); (try clear eμ1); (try clear μ1); (try clear hz9); (try clear hsz); (try clear s₁); (try clear hcn); (try clear hlc); omega) | omega))) (fun c7_ => ?_)
  refine lv_iload_n hx hb dX9_needPlace_10 rfl (lv_at hl 2 rfl) ?_
  refine lv_aload_n hx hb dX9_needPlace_11 rfl (lv_at hl 0 rfl) ?_
  refine fz_get (D := (dC, dI)) (ci := 9) (v := .ref (h0 + 5)) (C := RX9) (T := TX9) (N := 15) hx hb hts inG9 hown hK hP (k := 0) (by decide) (F := (sF0 h0)) sE_0 rfl 1 (by decide) (hts _ k333) (fun _ h9 => h9) rfl dX9_needPlace_12 ?_
  refine lv_iload_n hx hb dX9_needPlace_15 rfl (lv_at hl 1 rfl) ?_
  refine fz_ald (k := 5) (n := 8) (k2 := (113 + (pg).toNat * 15)) hx hb hK hP 1 rfl (by decide) sE_5 rfl ⟨by (first | ((try clear c7_); (try clear hcp); (try clear hμ1); (try clear x); (try clear eμ1); (try clear μ1); (try clear hz9); (try clear hsz); (try clear s₁); (try clear hcn); (try clear hlc); omega) | omega), by (first | ((try clear c7_); (try clear hcp); (try clear hμ1); (try clear x); (try clear eμ1); (try clear μ1); (try clear hz9); (try clear hsz); (try clear s₁); (try clear hcn); omega) | omega)⟩ (by decide) (if_pos (by (first | ((try clear c7_); (try clear hcp); (try clear hμ1); (try clear x); (try clear eμ1); (try clear μ1); (try clear hz9); (try clear hsz); (try clear s₁); (try clear hcn); omega) | omega))) dX9_needPlace_16 ?_
  refine fz_get (D := (dC, dI)) (ci := 1) (v := .int (iZ (μ (113 + (pg).toNat * 15) 2))) (C := RX1) (T := TX1) (N := 8) hx hb hts inG1 hown hK hP (k := (113 + (pg).toNat * 15)) (by (first | ((try clear c7_); (try clear hcp); (try clear hμ1); (try clear x); (try clear eμ1); (try clear μ1); (try clear hz9); (try clear hsz); (try clear s₁); (try clear hcn); omega) | omega)) (F := (sLF h0 (113 + (pg).toNat * 15))) (sE_leafO (show (pg).toNat < 8 by (first | ((try clear c7_); (try clear hcp); (try clear hμ1); (try clear x); (try clear eμ1); (try clear μ1); (try clear hz9); (try clear hsz); (try clear s₁); (try clear hcn); omega) | omega)) rfl) rfl 2 (by decide) (hts _ k301) (fun _ h9 => h9) rfl dX9_needPlace_17 ?_
  refine fz_icmp_ge (tgt := 27) (by first | (constructor <;> (first | ((try clear c7_); (try clear hcp); (try clear hμ1); (try clear x); (try clear eμ1); (try clear μ1); (try clear hz9); (try clear hsz); (try clear s₁); (try clear hcn); (try clear hlc); omega) | omega)) | assumption) (by first | (constructor <;> (first | ((try clear c7_); (try clear hμ1); (try clear x); (try clear eμ1); (try clear μ1); (try clear hz9); (try clear hsz); (try clear s₁); (try clear hc); (try clear hcn); (try clear hlc); omega) | omega)) | assumption) hx hb dX9_needPlace_20 (by decide) (fun h9 => (by (first | ((try clear c7_); (try clear hcp); (try clear hμ1); (try clear x); (try clear eμ1); (try clear μ1); (try clear hz9); (try clear hsz); (try clear s₁); (try clear hcn); (try clear hlc); omega) | omega))) (fun c20_ => ?_)
  refine lv_iconst (v := iZ 1) hx hb dX9_needPlace_23 rfl ?_
  refine lv_goto (tgt := 28) hx hb dX9_needPlace_24 (by decide) ?_
  refine va_callv (va_runV (As := [.int (iZ (1))]) (rest := []) ⟨hx, hb, hml, hown, hts⟩ (s_needElement l dC dI cI cZ cII cIII h0 H.size μ  ) (cwV 1 hts (gV_G k739 k741 ks_yX9_needElement k1 k742) rfl rfl rfl (by decide +kernel) ⟨Nat.le_of_ble_eq_true rfl, Nat.le_of_ble_eq_true rfl⟩) ⟨fun a U g mk q => by obtain ⟨q0, q1, qP, qK, qM⟩ := q; exact ⟨q0, q1, qP, va_K.moved (u := U) (U := U.calling g mk a) (Vm.Alike.refl U.vm) qK, qM⟩, va_recv hK hP (ci := 9) (q0 := 0) rfl ((fw_get (by decide)).trans (by rw [sE_0]; rfl)), fun U hU hW => ⟨rfl, by rw [hU], by rw [hU]; exact hP, va_K.moved hW.alike hK, xM_warm hW hM⟩⟩ rfl rfl hl.1 rfl (lv_room (Nat.le_of_ble_eq_true rfl)) dX9_needPlace_28 ⟨Nat.le_of_ble_eq_true rfl, Nat.le_of_ble_eq_true rfl⟩) hS (fun q _ h => fA_le hS.1 q h) (fA_le hS.1) (fun u9 t9 H1 locs ht9 hvm9 hw9 hB9 hz9 hk9 hS => ?_)
  obtain ⟨hP, -⟩ := hB9
  rw [ht9] at hP
  generalize H1 = H at hP hS ⊢
  obtain ⟨μ2, eμ2⟩ : ∃ x : va_M, x = u9 := ⟨_, rfl⟩
  rw [← eμ2] at hP hw9
  have hμ2 := hw9; clear hw9
  rw [hμ2] at hP
  exact W.vret hx hb hr (fun t9 ht9 hW9 => ⟨⟨μ, rfl, (by
            try dsimp only
            all_goals exact rfl), by rw [ht9]; exact hP, va_K.moved hW9.alike hK⟩, hS.F ht9⟩) hS.2.2 dX9_needPlace_31
set_option maxHeartbeats 4000000 in
set_option maxRecDepth 100000 in
theorem x_needPlace (l : Launch) (hfl : l.stackTraces = false) (dC : Nat → ClassId) (dI : Nat → Nat → Nat) (cI cZ cII cIII : ClassId) (h0 sz : Nat) (μ : va_M) (pg : Int) (kn : Int) (hpr : inR pg) (hlc : 0 ≤ μ 0 2 ∧ μ 0 2 ≤ 8) (hkr : inR kn) (hcn : ∀ i : Nat, i < 8 → inR (μ (113 + i * 15) 2)) (hc : ¬ ((0 ≤ pg ∧ pg < μ 0 2) ∧ 0 ≤ kn ∧ kn < μ (113 + (pg).toNat * 15) 2)) : vx_Met l yX9_needPlace (Cond.code yX9_needPlace cX9_needPlace 3 none :: wsG) ({ frames := 8, cells := 1, slots := 6, locals := 131 } : Room) (va_Pc [.ref h0, .int (iZ (pg)), .int (iZ (kn))] (fun U => U.heap.size = sz ∧ va_P (dC, dI) vwCl (fw (sE cI cZ cII cIII h0) h0 233 μ) U.heap ∧ va_K (dC, dI) vwCl (sT cI cZ cII cIII) U ∧ xM U ∧ xX (fA h0 233 sz) U)) (va_Qv (fun (u : va_M) => False) (fun u t => va_P (dC, dI) vwCl (fw (sE cI cZ cII cIII h0) h0 233 u) t.heap ∧ va_K (dC, dI) vwCl (sT cI cZ cII cIII) t) (fA h0 233 sz)) (vx_X (fun (u : va_M) => fr (fun x _ => x = 112) μ u) (fun E u t => E ∈ (["java/util/NoSuchElementException"] : List String) ∧ va_P (dC, dI) vwCl (fw (sE cI cZ cII cIII h0) h0 233 u) t.heap ∧ va_K (dC, dI) vwCl (sT cI cZ cII cIII) t) (fA h0 233 sz)) 1 6 (fA h0 233 sz) := by
  refine vx_ofW (cc := cX9_needPlace) (maxL := 3) (ret := none) (by decide) rfl ?_
  intro p e s m args below meth c s₁ B hml hnt hv
  obtain ⟨rfl, hsz, hP, hK, hM, hEx⟩ := hv
  have hx := B.exec
  have hb := B.bytes
  have hr := B.returns
  have hts : ∀ w ∈ wsG, w.before _ s = true := hG_of (atoms_spec (ws := (Cond.code yX9_needPlace cX9_needPlace 3 none :: wsG)) B.pre)
  have hown : s.vm.findClass RX9 = some m.cls := findClass_of_methodNamed B.named
  have hlocks := B.notSynchronized
  subst hsz
  have hS : va_S (fA h0 233 s.heap.size) s.heap s.heap [] := va_S.rf
  have hl := lv_entry ([.ref h0, .int (iZ (pg)), .int (iZ (kn))]) (n := 3) (Nat.le_of_ble_eq_true rfl)
  rw [lg_entry_eq]
  generalize (lg_sl ([.ref h0, .int (iZ (pg)), .int (iZ (kn))]) ++ List.replicate (3 - (lg_sl ([.ref h0, .int (iZ (pg)), .int (iZ (kn))])).length) Slot.unset).toArray = ls at hl ⊢
  have hl : lv_has ls 3 [(0, .ref h0), (1, .int (iZ (pg))), (2, .int (iZ (kn)))] := hl
  refine lv_aload_n hx hb dX9_needPlace_0 rfl (lv_at hl 0 rfl) ?_
  refine lv_iload_n hx hb dX9_needPlace_1 rfl (lv_at hl 1 rfl) ?_
  by_cases hn2_ : 0 ≤ pg ∧ pg < μ 0 2
  · refine va_callv (va_runV (As := [.int (iZ (pg))]) (rest := []) ⟨hx, hb, hml, hown, hts⟩ (s_needPage l dC dI cI cZ cII cIII h0 s.heap.size μ (pg) (by assumption) (by first | assumption | omega | exact ⟨by omega, by omega⟩) (by exact hn2_)) (cwV 1 hts (gV_G k735 k737 ks_yX9_needPage k1 k738) rfl rfl rfl (by decide +kernel) ⟨Nat.le_of_ble_eq_true rfl, Nat.le_of_ble_eq_true rfl⟩) ⟨fun a U g mk q => by obtain ⟨q0, q1, qP, qK, qM⟩ := q; exact ⟨q0, q1, qP, va_K.moved (u := U) (U := U.calling g mk a) (Vm.Alike.refl U.vm) qK, qM⟩, va_recv hK hP (ci := 9) (q0 := 0) rfl ((fw_get (by decide)).trans (by rw [sE_0]; rfl)), fun U hU hW => ⟨rfl, by rw [hU], by rw [hU]; exact hP, va_K.moved hW.alike hK, xM_warm hW hM⟩⟩ rfl rfl hl.1 rfl (lv_room (Nat.le_of_ble_eq_true rfl)) dX9_needPlace_2 ⟨Nat.le_of_ble_eq_true rfl, Nat.le_of_ble_eq_true rfl⟩) hS (fun q _ h => fA_le hS.1 q h) (fA_le hS.1) (fun u9 t9 H1 locs ht9 hvm9 hw9 hB9 hz9 hk9 hS => ?_)
    obtain ⟨hP, -⟩ := hB9
    rw [ht9] at hP
    generalize H1 = H at hP hS ⊢
    obtain ⟨μ1, eμ1⟩ : ∃ x : va_M, x = u9 := ⟨_, rfl⟩
    rw [← eμ1] at hP hw9
    have hμ1 := hw9; clear hw9
    rw [hμ1] at hP
    have hcp := hcn pg.toNat (by (first | ((try clear hcp); (try clear hμ1); (try clear x); (try clear eμ1); (try clear μ1); (try clear hz9); (try clear hsz); (try clear hnt); (try clear s₁); (try clear hc); (try clear hcn); omega) | omega))
    refine lv_aload_n hx hb dX9_needPlace_5 rfl (lv_at hl 0 rfl) ?_
    refine lv_iload_n hx hb dX9_needPlace_6 rfl (lv_at hl 2 rfl) ?_
    refine fz_if_lt (tgt := 27) (by first | (constructor <;> (first | ((try clear hcp); (try clear hμ1); (try clear x); (try clear eμ1); (try clear μ1); (try clear hz9); (try clear hn2_); (try clear hsz); (try clear hnt); (try clear s₁); (try clear hc); (try clear hcn); (try clear hlc); omega) | omega)) | assumption) hx hb dX9_needPlace_7 (by decide) (fun c7_ => ?_) (fun c7_ => ?_)
    · refine lv_iconst (v := iZ 0) hx hb dX9_needPlace_27 rfl ?_
      refine vx_callv (vx_runV (As := [.int (iZ (0))]) (rest := []) ⟨hx, hb, hml, hown, hts⟩ (x_needElement l hfl dC dI cI cZ cII cIII h0 H.size μ  ) (cwV 1 hts (gV_G k739 k741 ks_yX9_needElement k1 k742) rfl rfl rfl (by decide +kernel) ⟨Nat.le_of_ble_eq_true rfl, Nat.le_of_ble_eq_true rfl⟩) ⟨fun a U g mk q => by obtain ⟨q0, q1, qP, qK, qM, qE⟩ := q; exact ⟨q0, q1, qP, va_K.moved (u := U) (U := U.calling g mk a) (Vm.Alike.refl U.vm) qK, qM, xX_call qE⟩, va_recv hK hP (ci := 9) (q0 := 0) rfl ((fw_get (by decide)).trans (by rw [sE_0]; rfl)), fun U hU hW => ⟨rfl, by rw [hU], by rw [hU]; exact hP, va_K.moved hW.alike hK, xM_warm hW hM, xX_at hEx hS (fun q h => fA_le hS.1 q h) hU hW⟩⟩ rfl rfl hl.1 rfl (lv_room (Nat.le_of_ble_eq_true rfl)) dX9_needPlace_28 ⟨Nat.le_of_ble_eq_true rfl, Nat.le_of_ble_eq_true rfl⟩) hS (fun q _ h => fA_le hS.1 q h) (fA_le hS.1) (fun q _ h => fA_le hS.1 q h) (fun E9 ce9 q9 u9 t9 H1 locs ht9 hvm9 hpx9 hBX9 hz9 hk9 hS hce9 hcv9 hcl9 => ?_) (fun u9 t9 H1 locs ht9 hvm9 hw9 hB9 hz9 hk9 hS => hw9.elim)
      obtain ⟨hE9, hP9, hK9⟩ := hBX9
      exact vx_out (fun x hx9 => (hnt x hx9).elim) hlocks hce9 hcv9 hcl9 (fun t8 ht8 hW8 => ⟨u9, (by
                    show fr (fun x _ => x = 112) μ u9
                    exact hpx9), ⟨hE9, by rw [ht8, ← ht9]; exact hP9, va_K.moved hW8 hK⟩, hS.F ht8⟩) hS.2.2 (Nat.le_of_ble_eq_true rfl) (Nat.le_of_ble_eq_true rfl)
    · refine lv_iload_n hx hb dX9_needPlace_10 rfl (lv_at hl 2 rfl) ?_
      refine lv_aload_n hx hb dX9_needPlace_11 rfl (lv_at hl 0 rfl) ?_
      refine fz_get (D := (dC, dI)) (ci := 9) (v := .ref (h0 + 5)) (C := RX9) (T := TX9) (N := 15) hx hb hts inG9 hown hK hP (k := 0) (by decide) (F := (sF0 h0)) sE_0 rfl 1 (by decide) (hts _ k333) (fun _ h9 => h9) rfl dX9_needPlace_12 ?_
      refine lv_iload_n hx hb dX9_needPlace_15 rfl (lv_at hl 1 rfl) ?_
      refine fz_ald (k := 5) (n := 8) (k2 := (113 + (pg).toNat * 15)) hx hb hK hP 1 rfl (by decide) sE_5 rfl ⟨by (first | ((try clear c7_); (try clear hcp); (try clear hμ1); (try clear x); (try clear eμ1); (try clear μ1); (try clear hz9); (try clear hsz); (try clear hnt); (try clear s₁); (try clear hc); (try clear hcn); (try clear hlc); omega) | omega), by (first | ((try clear c7_); (try clear hcp); (try clear hμ1); (try clear x); (try clear eμ1); (try clear μ1); (try clear hz9); (try clear hsz); (try clear hnt); (try clear s₁); (try clear hc); (try clear hcn); omega) | omega)⟩ (by decide) (if_pos (by (first | ((try clear c7_); (try clear hcp); (try clear hμ1); (try clear x); (try clear eμ1); (try clear μ1); (try clear hz9); (try clear hsz); (try clear hnt); (try clear s₁); (try clear hc); (try clear hcn); omega) | omega))) dX9_needPlace_16 ?_
      refine fz_get (D := (dC, dI)) (ci := 1) (v := .int (iZ (μ (113 + (pg).toNat * 15) 2))) (C := RX1) (T := TX1) (N := 8) hx hb hts inG1 hown hK hP (k := (113 + (pg).toNat * 15)) (by (first | ((try clear c7_); (try clear hcp); (try clear hμ1); (try clear x); (try clear eμ1); (try clear μ1); (try clear hz9); (try clear hsz); (try clear hnt); (try clear s₁); (try clear hc); (try clear hcn); omega) | omega)) (F := (sLF h0 (113 + (pg).toNat * 15))) (sE_leafO (show (pg).toNat < 8 by (first | ((try clear c7_); (try clear hcp); (try clear hμ1); (try clear x); (try clear eμ1); (try clear μ1); (try clear hz9); (try clear hsz); (try clear hnt); (try clear s₁); (try clear hc); (try clear hcn); omega) | omega)) rfl) rfl 2 (by decide) (hts _ k301) (fun _ h9 => h9) rfl dX9_needPlace_17 ?_
      refine fz_icmp_ge (tgt := 27) (by first | (constructor <;> (first | ((try clear hcp); (try clear hμ1); (try clear x); (try clear eμ1); (try clear μ1); (try clear hz9); (try clear hn2_); (try clear hsz); (try clear hnt); (try clear s₁); (try clear hc); (try clear hcn); (try clear hlc); omega) | omega)) | assumption) (by first | (constructor <;> (first | ((try clear c7_); (try clear hμ1); (try clear x); (try clear eμ1); (try clear μ1); (try clear hz9); (try clear hn2_); (try clear hsz); (try clear hnt); (try clear s₁); (try clear hc); (try clear hcn); (try clear hlc); omega) | omega)) | assumption) hx hb dX9_needPlace_20 (by decide) (fun c20_ => ?_) (fun h9 => (by (first | ((try clear c20_); (try clear hcp); (try clear hμ1); (try clear x); (try clear eμ1); (try clear μ1); (try clear hz9); (try clear hsz); (try clear hnt); (try clear s₁); (try clear hcn); (try clear hlc); omega) | omega)))
      refine lv_iconst (v := iZ 0) hx hb dX9_needPlace_27 rfl ?_
      refine vx_callv (vx_runV (As := [.int (iZ (0))]) (rest := []) ⟨hx, hb, hml, hown, hts⟩ (x_needElement l hfl dC dI cI cZ cII cIII h0 H.size μ  ) (cwV 1 hts (gV_G k739 k741 ks_yX9_needElement k1 k742) rfl rfl rfl (by decide +kernel) ⟨Nat.le_of_ble_eq_true rfl, Nat.le_of_ble_eq_true rfl⟩) ⟨fun a U g mk q => by obtain ⟨q0, q1, qP, qK, qM, qE⟩ := q; exact ⟨q0, q1, qP, va_K.moved (u := U) (U := U.calling g mk a) (Vm.Alike.refl U.vm) qK, qM, xX_call qE⟩, va_recv hK hP (ci := 9) (q0 := 0) rfl ((fw_get (by decide)).trans (by rw [sE_0]; rfl)), fun U hU hW => ⟨rfl, by rw [hU], by rw [hU]; exact hP, va_K.moved hW.alike hK, xM_warm hW hM, xX_at hEx hS (fun q h => fA_le hS.1 q h) hU hW⟩⟩ rfl rfl hl.1 rfl (lv_room (Nat.le_of_ble_eq_true rfl)) dX9_needPlace_28 ⟨Nat.le_of_ble_eq_true rfl, Nat.le_of_ble_eq_true rfl⟩) hS (fun q _ h => fA_le hS.1 q h) (fA_le hS.1) (fun q _ h => fA_le hS.1 q h) (fun E9 ce9 q9 u9 t9 H1 locs ht9 hvm9 hpx9 hBX9 hz9 hk9 hS hce9 hcv9 hcl9 => ?_) (fun u9 t9 H1 locs ht9 hvm9 hw9 hB9 hz9 hk9 hS => hw9.elim)
      obtain ⟨hE9, hP9, hK9⟩ := hBX9
      exact vx_out (fun x hx9 => (hnt x hx9).elim) hlocks hce9 hcv9 hcl9 (fun t8 ht8 hW8 => ⟨u9, (by
                    show fr (fun x _ => x = 112) μ u9
                    exact hpx9), ⟨hE9, by rw [ht8, ← ht9]; exact hP9, va_K.moved hW8 hK⟩, hS.F ht8⟩) hS.2.2 (Nat.le_of_ble_eq_true rfl) (Nat.le_of_ble_eq_true rfl)
  · refine vx_callv (vx_runV (As := [.int (iZ (pg))]) (rest := []) ⟨hx, hb, hml, hown, hts⟩ (x_needPage l hfl dC dI cI cZ cII cIII h0 s.heap.size μ (pg) (by assumption) (by first | assumption | omega | exact ⟨by omega, by omega⟩) (hn2_)) (cwV 1 hts (gV_G k735 k737 ks_yX9_needPage k1 k738) rfl rfl rfl (by decide +kernel) ⟨Nat.le_of_ble_eq_true rfl, Nat.le_of_ble_eq_true rfl⟩) ⟨fun a U g mk q => by obtain ⟨q0, q1, qP, qK, qM, qE⟩ := q; exact ⟨q0, q1, qP, va_K.moved (u := U) (U := U.calling g mk a) (Vm.Alike.refl U.vm) qK, qM, xX_call qE⟩, va_recv hK hP (ci := 9) (q0 := 0) rfl ((fw_get (by decide)).trans (by rw [sE_0]; rfl)), fun U hU hW => ⟨rfl, by rw [hU], by rw [hU]; exact hP, va_K.moved hW.alike hK, xM_warm hW hM, xX_at hEx hS (fun q h => fA_le hS.1 q h) hU hW⟩⟩ rfl rfl hl.1 rfl (lv_room (Nat.le_of_ble_eq_true rfl)) dX9_needPlace_2 ⟨Nat.le_of_ble_eq_true rfl, Nat.le_of_ble_eq_true rfl⟩) hS (fun q _ h => fA_le hS.1 q h) (fA_le hS.1) (fun q _ h => fA_le hS.1 q h) (fun E9 ce9 q9 u9 t9 H1 locs ht9 hvm9 hpx9 hBX9 hz9 hk9 hS hce9 hcv9 hcl9 => ?_) (fun u9 t9 H1 locs ht9 hvm9 hw9 hB9 hz9 hk9 hS => hw9.elim)
    obtain ⟨hE9, hP9, hK9⟩ := hBX9
    exact vx_out (fun x hx9 => (hnt x hx9).elim) hlocks hce9 hcv9 hcl9 (fun t8 ht8 hW8 => ⟨u9, (by
                show fr (fun x _ => x = 112) μ u9
                exact hpx9), ⟨hE9, by rw [ht8, ← ht9]; exact hP9, va_K.moved hW8 hK⟩, hS.F ht8⟩) hS.2.2 (Nat.le_of_ble_eq_true rfl) (Nat.le_of_ble_eq_true rfl)
set_option maxHeartbeats 4000000 in
set_option maxRecDepth 100000 in
theorem s_needNode (l : Launch) (dC : Nat → ClassId) (dI : Nat → Nat → Nat) (cI cZ cII cIII : ClassId) (h0 sz : Nat) (μ : va_M) (q : Nat) (rm : Nat) (nd : Int) (hq : rowB q rm) (hnr : inR nd) (hnn : 0 ≤ μ q 6 ∧ μ q 6 ≤ 1100) (hc : 0 ≤ nd ∧ nd < μ q 6) : Met l yX9_needNode (Cond.code yX9_needNode cX9_needNode 3 none :: wsG) ({ frames := 2, cells := 0, slots := 0, locals := 35 } : Room) (va_Pc [.ref h0, .ref (h0 + q), .int (iZ (nd))] (fun U => U.heap.size = sz ∧ va_P (dC, dI) vwCl (fw (sE cI cZ cII cIII h0) h0 233 μ) U.heap ∧ va_K (dC, dI) vwCl (sT cI cZ cII cIII) U ∧ xM U)) (va_Qv (fun (u : va_M) => u = μ) (fun u t => va_P (dC, dI) vwCl (fw (sE cI cZ cII cIII h0) h0 233 u) t.heap ∧ va_K (dC, dI) vwCl (sT cI cZ cII cIII) t) (fA h0 233 sz)) 0 0 (fA h0 233 sz) := by
  refine Met.ofW (cc := cX9_needNode) (maxL := 3) (ret := none) (by decide) rfl ?_
  intro p e s m args below meth c s₁ B hml hv
  obtain ⟨rfl, hsz, hP, hK, hM⟩ := hv
  have hx := B.exec
  have hb := B.bytes
  have hr := B.returns
  have hts : ∀ w ∈ wsG, w.before _ s = true := hG_of (atoms_spec (ws := (Cond.code yX9_needNode cX9_needNode 3 none :: wsG)) B.pre)
  have hown : s.vm.findClass RX9 = some m.cls := findClass_of_methodNamed B.named
  have hlocks := B.notSynchronized
  subst hsz
  have hS : va_S (fA h0 233 s.heap.size) s.heap s.heap [] := va_S.rf
  have hl := lv_entry ([.ref h0, .ref (h0 + q), .int (iZ (nd))]) (n := 3) (Nat.le_of_ble_eq_true rfl)
  rw [lg_entry_eq]
  generalize (lg_sl ([.ref h0, .ref (h0 + q), .int (iZ (nd))]) ++ List.replicate (3 - (lg_sl ([.ref h0, .ref (h0 + q), .int (iZ (nd))])).length) Slot.unset).toArray = ls at hl ⊢
  have hl : lv_has ls 3 [(0, .ref h0), (1, .ref (h0 + q)), (2, .int (iZ (nd)))] := hl
  have hqb := rowB_b hq
  refine lv_aload_n hx hb dX9_needNode_0 rfl (lv_at hl 0 rfl) ?_
  refine lv_iload_n hx hb dX9_needNode_1 rfl (lv_at hl 2 rfl) ?_
  refine fz_if_lt (tgt := 17) (by first | (constructor <;> (first | ((try clear hqb); (try clear hsz); (try clear s₁); (try clear hnn); omega) | omega)) | assumption) hx hb dX9_needNode_2 (by decide) (fun h9 => (by (first | ((try clear hqb); (try clear hsz); (try clear s₁); (try clear hnn); omega) | omega))) (fun c2_ => ?_)
  refine lv_iload_n hx hb dX9_needNode_5 rfl (lv_at hl 2 rfl) ?_
  refine lv_aload_n hx hb dX9_needNode_6 rfl (lv_at hl 1 rfl) ?_
  refine fz_get (D := (dC, dI)) (ci := 4) (v := .int (iZ (μ q 6))) (C := RX4) (T := TX4) (N := 8) hx hb hts inG4 hown hK hP (k := q) (by (first | ((try clear c2_); (try clear hsz); (try clear s₁); (try clear hc); (try clear hnn); omega) | omega)) (F := (sRF h0 q)) (sE_rowO hq) rfl 6 (by decide) (hts _ k101) (fun _ h9 => h9) rfl dX9_needNode_7 ?_
  refine fz_icmp_ge (tgt := 17) (by first | (constructor <;> (first | ((try clear c2_); (try clear hqb); (try clear hsz); (try clear s₁); (try clear hnn); omega) | omega)) | assumption) (by first | (constructor <;> (first | ((try clear c2_); (try clear hqb); (try clear hsz); (try clear s₁); (try clear hc); omega) | omega)) | assumption) hx hb dX9_needNode_10 (by decide) (fun h9 => (by (first | ((try clear c2_); (try clear hqb); (try clear hsz); (try clear s₁); (try clear hnn); omega) | omega))) (fun c10_ => ?_)
  refine lv_iconst (v := iZ 1) hx hb dX9_needNode_13 rfl ?_
  refine lv_goto (tgt := 18) hx hb dX9_needNode_14 (by decide) ?_
  refine va_callv (va_runV (As := [.int (iZ (1))]) (rest := []) ⟨hx, hb, hml, hown, hts⟩ (s_needElement l dC dI cI cZ cII cIII h0 s.heap.size μ  ) (cwV 1 hts (gV_G k739 k741 ks_yX9_needElement k1 k742) rfl rfl rfl (by decide +kernel) ⟨Nat.le_of_ble_eq_true rfl, Nat.le_of_ble_eq_true rfl⟩) ⟨fun a U g mk q => by obtain ⟨q0, q1, qP, qK, qM⟩ := q; exact ⟨q0, q1, qP, va_K.moved (u := U) (U := U.calling g mk a) (Vm.Alike.refl U.vm) qK, qM⟩, va_recv hK hP (ci := 9) (q0 := 0) rfl ((fw_get (by decide)).trans (by rw [sE_0]; rfl)), fun U hU hW => ⟨rfl, by rw [hU], by rw [hU]; exact hP, va_K.moved hW.alike hK, xM_warm hW hM⟩⟩ rfl rfl hl.1 rfl (lv_room (Nat.le_of_ble_eq_true rfl)) dX9_needNode_18 ⟨Nat.le_of_ble_eq_true rfl, Nat.le_of_ble_eq_true rfl⟩) hS (fun q _ h => fA_le hS.1 q h) (fA_le hS.1) (fun u9 t9 H1 locs ht9 hvm9 hw9 hB9 hz9 hk9 hS => ?_)
  obtain ⟨hP, -⟩ := hB9
  rw [ht9] at hP
  generalize H1 = H at hP hS ⊢
  obtain ⟨μ1, eμ1⟩ : ∃ x : va_M, x = u9 := ⟨_, rfl⟩
  rw [← eμ1] at hP hw9
  have hμ1 := hw9; clear hw9
  rw [hμ1] at hP
  exact W.vret hx hb hr (fun t9 ht9 hW9 => ⟨⟨μ, rfl, (by
            try dsimp only
            all_goals exact rfl), by rw [ht9]; exact hP, va_K.moved hW9.alike hK⟩, hS.F ht9⟩) hS.2.2 dX9_needNode_21
set_option maxHeartbeats 4000000 in
set_option maxRecDepth 100000 in
theorem x_needNode (l : Launch) (hfl : l.stackTraces = false) (dC : Nat → ClassId) (dI : Nat → Nat → Nat) (cI cZ cII cIII : ClassId) (h0 sz : Nat) (μ : va_M) (q : Nat) (rm : Nat) (nd : Int) (hq : rowB q rm) (hnr : inR nd) (hnn : 0 ≤ μ q 6 ∧ μ q 6 ≤ 1100) (hc : ¬ (0 ≤ nd ∧ nd < μ q 6)) : vx_Met l yX9_needNode (Cond.code yX9_needNode cX9_needNode 3 none :: wsG) ({ frames := 7, cells := 1, slots := 6, locals := 110 } : Room) (va_Pc [.ref h0, .ref (h0 + q), .int (iZ (nd))] (fun U => U.heap.size = sz ∧ va_P (dC, dI) vwCl (fw (sE cI cZ cII cIII h0) h0 233 μ) U.heap ∧ va_K (dC, dI) vwCl (sT cI cZ cII cIII) U ∧ xM U ∧ xX (fA h0 233 sz) U)) (va_Qv (fun (u : va_M) => False) (fun u t => va_P (dC, dI) vwCl (fw (sE cI cZ cII cIII h0) h0 233 u) t.heap ∧ va_K (dC, dI) vwCl (sT cI cZ cII cIII) t) (fA h0 233 sz)) (vx_X (fun (u : va_M) => fr (fun x _ => x = 112) μ u) (fun E u t => E ∈ (["java/util/NoSuchElementException"] : List String) ∧ va_P (dC, dI) vwCl (fw (sE cI cZ cII cIII h0) h0 233 u) t.heap ∧ va_K (dC, dI) vwCl (sT cI cZ cII cIII) t) (fA h0 233 sz)) 1 6 (fA h0 233 sz) := by
  refine vx_ofW (cc := cX9_needNode) (maxL := 3) (ret := none) (by decide) rfl ?_
  intro p e s m args below meth c s₁ B hml hnt hv
  obtain ⟨rfl, hsz, hP, hK, hM, hEx⟩ := hv
  have hx := B.exec
  have hb := B.bytes
  have hr := B.returns
  have hts : ∀ w ∈ wsG, w.before _ s = true := hG_of (atoms_spec (ws := (Cond.code yX9_needNode cX9_needNode 3 none :: wsG)) B.pre)
  have hown : s.vm.findClass RX9 = some m.cls := findClass_of_methodNamed B.named
  have hlocks := B.notSynchronized
  subst hsz
  have hS : va_S (fA h0 233 s.heap.size) s.heap s.heap [] := va_S.rf
  have hl := lv_entry ([.ref h0, .ref (h0 + q), .int (iZ (nd))]) (n := 3) (Nat.le_of_ble_eq_true rfl)
  rw [lg_entry_eq]
  generalize (lg_sl ([.ref h0, .ref (h0 + q), .int (iZ (nd))]) ++ List.replicate (3 - (lg_sl ([.ref h0, .ref (h0 + q), .int (iZ (nd))])).length) Slot.unset).toArray = ls at hl ⊢
  have hl : lv_has ls 3 [(0, .ref h0), (1, .ref (h0 + q)), (2, .int (iZ (nd)))] := hl
  have hqb := rowB_b hq
  refine lv_aload_n hx hb dX9_needNode_0 rfl (lv_at hl 0 rfl) ?_
  refine lv_iload_n hx hb dX9_needNode_1 rfl (lv_at hl 2 rfl) ?_
  refine fz_if_lt (tgt := 17) (by first | (constructor <;> (first | ((try clear hqb); (try clear hsz); (try clear hnt); (try clear s₁); (try clear hc); (try clear hnn); omega) | omega)) | assumption) hx hb dX9_needNode_2 (by decide) (fun c2_ => ?_) (fun c2_ => ?_)
  · refine lv_iconst (v := iZ 0) hx hb dX9_needNode_17 rfl ?_
    refine vx_callv (vx_runV (As := [.int (iZ (0))]) (rest := []) ⟨hx, hb, hml, hown, hts⟩ (x_needElement l hfl dC dI cI cZ cII cIII h0 s.heap.size μ  ) (cwV 1 hts (gV_G k739 k741 ks_yX9_needElement k1 k742) rfl rfl rfl (by decide +kernel) ⟨Nat.le_of_ble_eq_true rfl, Nat.le_of_ble_eq_true rfl⟩) ⟨fun a U g mk q => by obtain ⟨q0, q1, qP, qK, qM, qE⟩ := q; exact ⟨q0, q1, qP, va_K.moved (u := U) (U := U.calling g mk a) (Vm.Alike.refl U.vm) qK, qM, xX_call qE⟩, va_recv hK hP (ci := 9) (q0 := 0) rfl ((fw_get (by decide)).trans (by rw [sE_0]; rfl)), fun U hU hW => ⟨rfl, by rw [hU], by rw [hU]; exact hP, va_K.moved hW.alike hK, xM_warm hW hM, xX_at hEx hS (fun q h => fA_le hS.1 q h) hU hW⟩⟩ rfl rfl hl.1 rfl (lv_room (Nat.le_of_ble_eq_true rfl)) dX9_needNode_18 ⟨Nat.le_of_ble_eq_true rfl, Nat.le_of_ble_eq_true rfl⟩) hS (fun q _ h => fA_le hS.1 q h) (fA_le hS.1) (fun q _ h => fA_le hS.1 q h) (fun E9 ce9 q9 u9 t9 H1 locs ht9 hvm9 hpx9 hBX9 hz9 hk9 hS hce9 hcv9 hcl9 => ?_) (fun u9 t9 H1 locs ht9 hvm9 hw9 hB9 hz9 hk9 hS => hw9.elim)
    obtain ⟨hE9, hP9, hK9⟩ := hBX9
    exact vx_out (fun x hx9 => (hnt x hx9).elim) hlocks hce9 hcv9 hcl9 (fun t8 ht8 hW8 => ⟨u9, (by
                show fr (fun x _ => x = 112) μ u9
                exact hpx9), ⟨hE9, by rw [ht8, ← ht9]; exact hP9, va_K.moved hW8 hK⟩, hS.F ht8⟩) hS.2.2 (Nat.le_of_ble_eq_true rfl) (Nat.le_of_ble_eq_true rfl)
  · refine lv_iload_n hx hb dX9_needNode_5 rfl (lv_at hl 2 rfl) ?_
    refine lv_aload_n hx hb dX9_needNode_6 rfl (lv_at hl 1 rfl) ?_
    refine fz_get (D := (dC, dI)) (ci := 4) (v := .int (iZ (μ q 6))) (C := RX4) (T := TX4) (N := 8) hx hb hts inG4 hown hK hP (k := q) (by (first | ((try clear c2_); (try clear hsz); (try clear hnt); (try clear s₁); (try clear hc); (try clear hnn); omega) | omega)) (F := (sRF h0 q)) (sE_rowO hq) rfl 6 (by decide) (hts _ k101) (fun _ h9 => h9) rfl dX9_needNode_7 ?_
    refine fz_icmp_ge (tgt := 17) (by first | (constructor <;> (first | ((try clear hqb); (try clear hsz); (try clear hnt); (try clear s₁); (try clear hc); (try clear hnn); omega) | omega)) | assumption) (by first | (constructor <;> (first | ((try clear c2_); (try clear hqb); (try clear hsz); (try clear hnt); (try clear s₁); (try clear hc); omega) | omega)) | assumption) hx hb dX9_needNode_10 (by decide) (fun c10_ => ?_) (fun h9 => (by (first | ((try clear c10_); (try clear hsz); (try clear hnt); (try clear s₁); (try clear hnn); omega) | omega)))
    refine lv_iconst (v := iZ 0) hx hb dX9_needNode_17 rfl ?_
    refine vx_callv (vx_runV (As := [.int (iZ (0))]) (rest := []) ⟨hx, hb, hml, hown, hts⟩ (x_needElement l hfl dC dI cI cZ cII cIII h0 s.heap.size μ  ) (cwV 1 hts (gV_G k739 k741 ks_yX9_needElement k1 k742) rfl rfl rfl (by decide +kernel) ⟨Nat.le_of_ble_eq_true rfl, Nat.le_of_ble_eq_true rfl⟩) ⟨fun a U g mk q => by obtain ⟨q0, q1, qP, qK, qM, qE⟩ := q; exact ⟨q0, q1, qP, va_K.moved (u := U) (U := U.calling g mk a) (Vm.Alike.refl U.vm) qK, qM, xX_call qE⟩, va_recv hK hP (ci := 9) (q0 := 0) rfl ((fw_get (by decide)).trans (by rw [sE_0]; rfl)), fun U hU hW => ⟨rfl, by rw [hU], by rw [hU]; exact hP, va_K.moved hW.alike hK, xM_warm hW hM, xX_at hEx hS (fun q h => fA_le hS.1 q h) hU hW⟩⟩ rfl rfl hl.1 rfl (lv_room (Nat.le_of_ble_eq_true rfl)) dX9_needNode_18 ⟨Nat.le_of_ble_eq_true rfl, Nat.le_of_ble_eq_true rfl⟩) hS (fun q _ h => fA_le hS.1 q h) (fA_le hS.1) (fun q _ h => fA_le hS.1 q h) (fun E9 ce9 q9 u9 t9 H1 locs ht9 hvm9 hpx9 hBX9 hz9 hk9 hS hce9 hcv9 hcl9 => ?_) (fun u9 t9 H1 locs ht9 hvm9 hw9 hB9 hz9 hk9 hS => hw9.elim)
    obtain ⟨hE9, hP9, hK9⟩ := hBX9
    exact vx_out (fun x hx9 => (hnt x hx9).elim) hlocks hce9 hcv9 hcl9 (fun t8 ht8 hW8 => ⟨u9, (by
                show fr (fun x _ => x = 112) μ u9
                exact hpx9), ⟨hE9, by rw [ht8, ← ht9]; exact hP9, va_K.moved hW8 hK⟩, hS.F ht8⟩) hS.2.2 (Nat.le_of_ble_eq_true rfl) (Nat.le_of_ble_eq_true rfl)

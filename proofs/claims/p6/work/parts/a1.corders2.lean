set_option maxRecDepth 100000 in
theorem k82 : (Cond.fieldLink "PageSkeleton$Orders" (102 : Nat) "PageSkeleton$Row" "code" "[I") ∈ wsG := wsG_a1 82 rfl rfl
set_option maxRecDepth 100000 in
theorem k303 : (Cond.fieldLink "PageSkeleton$Orders" (54 : Nat) "PageSkeleton$Leaf" "folded" "LPageSkeleton$Row;") ∈ wsG := wsG_a2 63 rfl rfl
set_option maxRecDepth 100000 in
theorem k1049 : (Cond.methodLink "PageSkeleton$Orders" (48 : Nat) ({ cls := "java/lang/Math", name := "min", desc := "(II)I" } : MethodName)) ∈ wsG := wsG_a5 89 rfl rfl
set_option maxRecDepth 100000 in
theorem k1050 : (Cond.methodLink "PageSkeleton$Orders" (60 : Nat) ({ cls := "PageSkeleton$Orders", name := "layNext", desc := "(LPageSkeleton$Row;LPageSkeleton$Row;LPageSkeleton$Row;LPageSkeleton$Layer;)I" } : MethodName)) ∈ wsG := wsG_a5 90 rfl rfl
set_option maxRecDepth 100000 in
theorem k1051 : (Cond.static ({ cls := "PageSkeleton$Orders", name := "layNext", desc := "(LPageSkeleton$Row;LPageSkeleton$Row;LPageSkeleton$Row;LPageSkeleton$Layer;)I" } : MethodName)) ∈ wsG := wsG_a5 91 rfl rfl
set_option maxRecDepth 100000 in
theorem k1052 : (Cond.code ({ cls := "PageSkeleton$Orders", name := "layNext", desc := "(LPageSkeleton$Row;LPageSkeleton$Row;LPageSkeleton$Row;LPageSkeleton$Layer;)I" } : MethodName) prog_4_method_6_code (5 : Nat) (Option.some FieldType.int)) ∈ wsG := wsG_a5 92 rfl rfl
set_option maxRecDepth 100000 in
theorem k1056 : (Cond.methodLink "PageSkeleton$Orders" (64 : Nat) ({ cls := "PageSkeleton$Orders", name := "keepEnd", desc := "(LPageSkeleton$Row;I)V" } : MethodName)) ∈ wsG := wsG_a5 96 rfl rfl
set_option maxRecDepth 100000 in
theorem k1058 : (Cond.instanceMethod ({ cls := "PageSkeleton$Orders", name := "keepEnd", desc := "(LPageSkeleton$Row;I)V" } : MethodName)) ∈ wsG := wsG_a5 98 rfl rfl
set_option maxRecDepth 100000 in
theorem k1059 : (Cond.code ({ cls := "PageSkeleton$Orders", name := "keepEnd", desc := "(LPageSkeleton$Row;I)V" } : MethodName) prog_4_method_7_code (3 : Nat) (Option.none : Option Jvm.ClassFile.FieldType)) ∈ wsG := wsG_a5 99 rfl rfl
set_option maxRecDepth 100000 in
theorem k1060 : (Cond.methodLink "PageSkeleton$Orders" (105 : Nat) ({ cls := "java/lang/System", name := "arraycopy", desc := "(Ljava/lang/Object;ILjava/lang/Object;II)V" } : MethodName)) ∈ wsG := wsG_a5 100 rfl rfl
set_option maxRecDepth 100000 in
theorem k1061 : (Cond.methodLink "PageSkeleton$Orders" (68 : Nat) ({ cls := "PageSkeleton$Orders", name := "goToNextOrder", desc := "()I" } : MethodName)) ∈ wsG := wsG_a5 101 rfl rfl
set_option maxRecDepth 100000 in
theorem k1063 : (Cond.instanceMethod ({ cls := "PageSkeleton$Orders", name := "goToNextOrder", desc := "()I" } : MethodName)) ∈ wsG := wsG_a5 103 rfl rfl
set_option maxRecDepth 100000 in
theorem k1064 : (Cond.code ({ cls := "PageSkeleton$Orders", name := "goToNextOrder", desc := "()I" } : MethodName) prog_4_method_3_code (5 : Nat) (Option.some FieldType.int)) ∈ wsG := wsG_a5 104 rfl rfl
set_option maxRecDepth 100000 in
theorem k1069 : (Cond.methodLink "PageSkeleton$Orders" (72 : Nat) ({ cls := "PageSkeleton$Orders", name := "findAnswers", desc := "()V" } : MethodName)) ∈ wsG := wsG_a5 109 rfl rfl
set_option maxRecDepth 100000 in
theorem k1071 : (Cond.instanceMethod ({ cls := "PageSkeleton$Orders", name := "findAnswers", desc := "()V" } : MethodName)) ∈ wsG := wsG_a5 111 rfl rfl
set_option maxRecDepth 100000 in
theorem k1072 : (Cond.code ({ cls := "PageSkeleton$Orders", name := "findAnswers", desc := "()V" } : MethodName) prog_4_method_5_code (3 : Nat) (Option.none : Option Jvm.ClassFile.FieldType)) ∈ wsG := wsG_a5 112 rfl rfl
set_option maxRecDepth 100000 in
theorem ks_yX2_keepEnd : Cond.selects RX2 yX2_keepEnd yX2_keepEnd ∈ wsG := wsG_p 41 rfl rfl
set_option maxRecDepth 100000 in
theorem ks_yX2_goToNextOrder : Cond.selects RX2 yX2_goToNextOrder yX2_goToNextOrder ∈ wsG := wsG_p 42 rfl rfl
set_option maxRecDepth 100000 in
theorem ks_yX2_findAnswers : Cond.selects RX2 yX2_findAnswers yX2_findAnswers ∈ wsG := wsG_p 44 rfl rfl
theorem dX2_goThroughAll_0 : decode cX2_goThroughAll 0 = .ok (.aload_n 0, 1) := by decide +kernel
theorem dX2_goThroughAll_1 : decode cX2_goThroughAll 1 = .ok (.iconst 0, 1) := by decide +kernel
theorem dX2_goThroughAll_2 : decode cX2_goThroughAll 2 = .ok (.putfield 35, 3) := by decide +kernel
theorem dX2_goThroughAll_5 : decode cX2_goThroughAll 5 = .ok (.aload_n 0, 1) := by decide +kernel
theorem dX2_goThroughAll_6 : decode cX2_goThroughAll 6 = .ok (.iload_n 2, 1) := by decide +kernel
theorem dX2_goThroughAll_7 : decode cX2_goThroughAll 7 = .ok (.iconst 4, 1) := by decide +kernel
theorem dX2_goThroughAll_8 : decode cX2_goThroughAll 8 = .ok (.invokestatic 48, 3) := by decide +kernel
theorem dX2_goThroughAll_11 : decode cX2_goThroughAll 11 = .ok (.putfield 39, 3) := by decide +kernel
theorem dX2_goThroughAll_14 : decode cX2_goThroughAll 14 = .ok (.iconst 0, 1) := by decide +kernel
theorem dX2_goThroughAll_15 : decode cX2_goThroughAll 15 = .ok (.istore 4, 2) := by decide +kernel
theorem dX2_goThroughAll_17 : decode cX2_goThroughAll 17 = .ok (.iload 4, 2) := by decide +kernel
theorem dX2_goThroughAll_19 : decode cX2_goThroughAll 19 = .ok (.aload_n 0, 1) := by decide +kernel
theorem dX2_goThroughAll_20 : decode cX2_goThroughAll 20 = .ok (.getfield 39, 3) := by decide +kernel
theorem dX2_goThroughAll_23 : decode cX2_goThroughAll 23 = .ok (.if_icmp .ge 18, 3) := by decide +kernel
theorem dX2_goThroughAll_26 : decode cX2_goThroughAll 26 = .ok (.aload_n 0, 1) := by decide +kernel
theorem dX2_goThroughAll_27 : decode cX2_goThroughAll 27 = .ok (.getfield 9, 3) := by decide +kernel
theorem dX2_goThroughAll_30 : decode cX2_goThroughAll 30 = .ok (.iload 4, 2) := by decide +kernel
theorem dX2_goThroughAll_32 : decode cX2_goThroughAll 32 = .ok (.iload 4, 2) := by decide +kernel
theorem dX2_goThroughAll_34 : decode cX2_goThroughAll 34 = .ok (.iastore, 1) := by decide +kernel
theorem dX2_goThroughAll_35 : decode cX2_goThroughAll 35 = .ok (.iinc 4 1, 3) := by decide +kernel
theorem dX2_goThroughAll_38 : decode cX2_goThroughAll 38 = .ok (.goto (-21), 3) := by decide +kernel
theorem dX2_goThroughAll_41 : decode cX2_goThroughAll 41 = .ok (.iconst 0, 1) := by decide +kernel
theorem dX2_goThroughAll_42 : decode cX2_goThroughAll 42 = .ok (.istore 4, 2) := by decide +kernel
theorem dX2_goThroughAll_44 : decode cX2_goThroughAll 44 = .ok (.iconst 0, 1) := by decide +kernel
theorem dX2_goThroughAll_45 : decode cX2_goThroughAll 45 = .ok (.istore 5, 2) := by decide +kernel
theorem dX2_goThroughAll_47 : decode cX2_goThroughAll 47 = .ok (.iload 5, 2) := by decide +kernel
theorem dX2_goThroughAll_49 : decode cX2_goThroughAll 49 = .ok (.bipush 24, 2) := by decide +kernel
theorem dX2_goThroughAll_51 : decode cX2_goThroughAll 51 = .ok (.if_icmp .ge 114, 3) := by decide +kernel
theorem dX2_goThroughAll_54 : decode cX2_goThroughAll 54 = .ok (.iload 4, 2) := by decide +kernel
theorem dX2_goThroughAll_56 : decode cX2_goThroughAll 56 = .ok (.ifCond .lt 109, 3) := by decide +kernel
theorem dX2_goThroughAll_59 : decode cX2_goThroughAll 59 = .ok (.iload 4, 2) := by decide +kernel
theorem dX2_goThroughAll_61 : decode cX2_goThroughAll 61 = .ok (.istore 6, 2) := by decide +kernel
theorem dX2_goThroughAll_63 : decode cX2_goThroughAll 63 = .ok (.iload 6, 2) := by decide +kernel
theorem dX2_goThroughAll_65 : decode cX2_goThroughAll 65 = .ok (.aload_n 0, 1) := by decide +kernel
theorem dX2_goThroughAll_66 : decode cX2_goThroughAll 66 = .ok (.getfield 39, 3) := by decide +kernel
theorem dX2_goThroughAll_69 : decode cX2_goThroughAll 69 = .ok (.if_icmp .ge 62, 3) := by decide +kernel
theorem dX2_goThroughAll_72 : decode cX2_goThroughAll 72 = .ok (.aload_n 0, 1) := by decide +kernel
theorem dX2_goThroughAll_73 : decode cX2_goThroughAll 73 = .ok (.getfield 17, 3) := by decide +kernel
theorem dX2_goThroughAll_76 : decode cX2_goThroughAll 76 = .ok (.iload 6, 2) := by decide +kernel
theorem dX2_goThroughAll_78 : decode cX2_goThroughAll 78 = .ok (.aaload, 1) := by decide +kernel
theorem dX2_goThroughAll_79 : decode cX2_goThroughAll 79 = .ok (.aload_n 1, 1) := by decide +kernel
theorem dX2_goThroughAll_80 : decode cX2_goThroughAll 80 = .ok (.aload_n 0, 1) := by decide +kernel
theorem dX2_goThroughAll_81 : decode cX2_goThroughAll 81 = .ok (.getfield 9, 3) := by decide +kernel
theorem dX2_goThroughAll_84 : decode cX2_goThroughAll 84 = .ok (.iload 6, 2) := by decide +kernel
theorem dX2_goThroughAll_86 : decode cX2_goThroughAll 86 = .ok (.iaload, 1) := by decide +kernel
theorem dX2_goThroughAll_87 : decode cX2_goThroughAll 87 = .ok (.aaload, 1) := by decide +kernel
theorem dX2_goThroughAll_88 : decode cX2_goThroughAll 88 = .ok (.getfield 54, 3) := by decide +kernel
theorem dX2_goThroughAll_91 : decode cX2_goThroughAll 91 = .ok (.aload_n 0, 1) := by decide +kernel
theorem dX2_goThroughAll_92 : decode cX2_goThroughAll 92 = .ok (.getfield 17, 3) := by decide +kernel
theorem dX2_goThroughAll_95 : decode cX2_goThroughAll 95 = .ok (.iload 6, 2) := by decide +kernel
theorem dX2_goThroughAll_97 : decode cX2_goThroughAll 97 = .ok (.iconst 1, 1) := by decide +kernel
theorem dX2_goThroughAll_98 : decode cX2_goThroughAll 98 = .ok (.iadd, 1) := by decide +kernel
theorem dX2_goThroughAll_99 : decode cX2_goThroughAll 99 = .ok (.aaload, 1) := by decide +kernel
theorem dX2_goThroughAll_100 : decode cX2_goThroughAll 100 = .ok (.aload_n 3, 1) := by decide +kernel
theorem dX2_goThroughAll_101 : decode cX2_goThroughAll 101 = .ok (.invokestatic 60, 3) := by decide +kernel
theorem dX2_goThroughAll_104 : decode cX2_goThroughAll 104 = .ok (.istore 7, 2) := by decide +kernel
theorem dX2_goThroughAll_106 : decode cX2_goThroughAll 106 = .ok (.aload_n 0, 1) := by decide +kernel
theorem dX2_goThroughAll_107 : decode cX2_goThroughAll 107 = .ok (.getfield 21, 3) := by decide +kernel
theorem dX2_goThroughAll_110 : decode cX2_goThroughAll 110 = .ok (.iload 6, 2) := by decide +kernel
theorem dX2_goThroughAll_112 : decode cX2_goThroughAll 112 = .ok (.iconst 1, 1) := by decide +kernel
theorem dX2_goThroughAll_113 : decode cX2_goThroughAll 113 = .ok (.iadd, 1) := by decide +kernel
theorem dX2_goThroughAll_114 : decode cX2_goThroughAll 114 = .ok (.aload_n 0, 1) := by decide +kernel
theorem dX2_goThroughAll_115 : decode cX2_goThroughAll 115 = .ok (.getfield 21, 3) := by decide +kernel
theorem dX2_goThroughAll_118 : decode cX2_goThroughAll 118 = .ok (.iload 6, 2) := by decide +kernel
theorem dX2_goThroughAll_120 : decode cX2_goThroughAll 120 = .ok (.iaload, 1) := by decide +kernel
theorem dX2_goThroughAll_121 : decode cX2_goThroughAll 121 = .ok (.iload 7, 2) := by decide +kernel
theorem dX2_goThroughAll_123 : decode cX2_goThroughAll 123 = .ok (.iadd, 1) := by decide +kernel
theorem dX2_goThroughAll_124 : decode cX2_goThroughAll 124 = .ok (.iastore, 1) := by decide +kernel
theorem dX2_goThroughAll_125 : decode cX2_goThroughAll 125 = .ok (.iinc 6 1, 3) := by decide +kernel
theorem dX2_goThroughAll_128 : decode cX2_goThroughAll 128 = .ok (.goto (-65), 3) := by decide +kernel
theorem dX2_goThroughAll_131 : decode cX2_goThroughAll 131 = .ok (.aload_n 0, 1) := by decide +kernel
theorem dX2_goThroughAll_132 : decode cX2_goThroughAll 132 = .ok (.aload_n 0, 1) := by decide +kernel
theorem dX2_goThroughAll_133 : decode cX2_goThroughAll 133 = .ok (.getfield 17, 3) := by decide +kernel
theorem dX2_goThroughAll_136 : decode cX2_goThroughAll 136 = .ok (.aload_n 0, 1) := by decide +kernel
theorem dX2_goThroughAll_137 : decode cX2_goThroughAll 137 = .ok (.getfield 39, 3) := by decide +kernel
theorem dX2_goThroughAll_140 : decode cX2_goThroughAll 140 = .ok (.aaload, 1) := by decide +kernel
theorem dX2_goThroughAll_141 : decode cX2_goThroughAll 141 = .ok (.aload_n 0, 1) := by decide +kernel
theorem dX2_goThroughAll_142 : decode cX2_goThroughAll 142 = .ok (.getfield 21, 3) := by decide +kernel
theorem dX2_goThroughAll_145 : decode cX2_goThroughAll 145 = .ok (.aload_n 0, 1) := by decide +kernel
theorem dX2_goThroughAll_146 : decode cX2_goThroughAll 146 = .ok (.getfield 39, 3) := by decide +kernel
theorem dX2_goThroughAll_149 : decode cX2_goThroughAll 149 = .ok (.iaload, 1) := by decide +kernel
theorem dX2_goThroughAll_150 : decode cX2_goThroughAll 150 = .ok (.invokevirtual 64, 3) := by decide +kernel
theorem dX2_goThroughAll_153 : decode cX2_goThroughAll 153 = .ok (.aload_n 0, 1) := by decide +kernel
theorem dX2_goThroughAll_154 : decode cX2_goThroughAll 154 = .ok (.invokevirtual 68, 3) := by decide +kernel
theorem dX2_goThroughAll_157 : decode cX2_goThroughAll 157 = .ok (.istore 4, 2) := by decide +kernel
theorem dX2_goThroughAll_159 : decode cX2_goThroughAll 159 = .ok (.iinc 5 1, 3) := by decide +kernel
theorem dX2_goThroughAll_162 : decode cX2_goThroughAll 162 = .ok (.goto (-115), 3) := by decide +kernel
theorem dX2_goThroughAll_165 : decode cX2_goThroughAll 165 = .ok (.aload_n 0, 1) := by decide +kernel
theorem dX2_goThroughAll_166 : decode cX2_goThroughAll 166 = .ok (.invokevirtual 72, 3) := by decide +kernel
theorem dX2_goThroughAll_169 : decode cX2_goThroughAll 169 = .ok (.return_, 1) := by decide +kernel
theorem dX2_keepEnd_0 : decode cX2_keepEnd 0 = .ok (.aload_n 0, 1) := by decide +kernel
theorem dX2_keepEnd_1 : decode cX2_keepEnd 1 = .ok (.getfield 35, 3) := by decide +kernel
theorem dX2_keepEnd_4 : decode cX2_keepEnd 4 = .ok (.bipush 24, 2) := by decide +kernel
theorem dX2_keepEnd_6 : decode cX2_keepEnd 6 = .ok (.if_icmp .ge 58, 3) := by decide +kernel
theorem dX2_keepEnd_9 : decode cX2_keepEnd 9 = .ok (.aload_n 1, 1) := by decide +kernel
theorem dX2_keepEnd_10 : decode cX2_keepEnd 10 = .ok (.getfield 102, 3) := by decide +kernel
theorem dX2_keepEnd_13 : decode cX2_keepEnd 13 = .ok (.iconst 0, 1) := by decide +kernel
theorem dX2_keepEnd_14 : decode cX2_keepEnd 14 = .ok (.aload_n 0, 1) := by decide +kernel
theorem dX2_keepEnd_15 : decode cX2_keepEnd 15 = .ok (.getfield 26, 3) := by decide +kernel
theorem dX2_keepEnd_18 : decode cX2_keepEnd 18 = .ok (.aload_n 0, 1) := by decide +kernel
theorem dX2_keepEnd_19 : decode cX2_keepEnd 19 = .ok (.getfield 35, 3) := by decide +kernel
theorem dX2_keepEnd_22 : decode cX2_keepEnd 22 = .ok (.aaload, 1) := by decide +kernel
theorem dX2_keepEnd_23 : decode cX2_keepEnd 23 = .ok (.iconst 0, 1) := by decide +kernel
theorem dX2_keepEnd_24 : decode cX2_keepEnd 24 = .ok (.aload_n 1, 1) := by decide +kernel
theorem dX2_keepEnd_25 : decode cX2_keepEnd 25 = .ok (.getfield 85, 3) := by decide +kernel
theorem dX2_keepEnd_28 : decode cX2_keepEnd 28 = .ok (.invokestatic 105, 3) := by decide +kernel
theorem dX2_keepEnd_31 : decode cX2_keepEnd 31 = .ok (.aload_n 0, 1) := by decide +kernel
theorem dX2_keepEnd_32 : decode cX2_keepEnd 32 = .ok (.getfield 29, 3) := by decide +kernel
theorem dX2_keepEnd_35 : decode cX2_keepEnd 35 = .ok (.aload_n 0, 1) := by decide +kernel
theorem dX2_keepEnd_36 : decode cX2_keepEnd 36 = .ok (.getfield 35, 3) := by decide +kernel
theorem dX2_keepEnd_39 : decode cX2_keepEnd 39 = .ok (.aload_n 1, 1) := by decide +kernel
theorem dX2_keepEnd_40 : decode cX2_keepEnd 40 = .ok (.getfield 85, 3) := by decide +kernel
theorem dX2_keepEnd_43 : decode cX2_keepEnd 43 = .ok (.iastore, 1) := by decide +kernel
theorem dX2_keepEnd_44 : decode cX2_keepEnd 44 = .ok (.aload_n 0, 1) := by decide +kernel
theorem dX2_keepEnd_45 : decode cX2_keepEnd 45 = .ok (.getfield 32, 3) := by decide +kernel
theorem dX2_keepEnd_48 : decode cX2_keepEnd 48 = .ok (.aload_n 0, 1) := by decide +kernel
theorem dX2_keepEnd_49 : decode cX2_keepEnd 49 = .ok (.getfield 35, 3) := by decide +kernel
theorem dX2_keepEnd_52 : decode cX2_keepEnd 52 = .ok (.iload_n 2, 1) := by decide +kernel
theorem dX2_keepEnd_53 : decode cX2_keepEnd 53 = .ok (.iastore, 1) := by decide +kernel
theorem dX2_keepEnd_54 : decode cX2_keepEnd 54 = .ok (.aload_n 0, 1) := by decide +kernel
theorem dX2_keepEnd_55 : decode cX2_keepEnd 55 = .ok (.dup, 1) := by decide +kernel
theorem dX2_keepEnd_56 : decode cX2_keepEnd 56 = .ok (.getfield 35, 3) := by decide +kernel
theorem dX2_keepEnd_59 : decode cX2_keepEnd 59 = .ok (.iconst 1, 1) := by decide +kernel
theorem dX2_keepEnd_60 : decode cX2_keepEnd 60 = .ok (.iadd, 1) := by decide +kernel
theorem dX2_keepEnd_61 : decode cX2_keepEnd 61 = .ok (.putfield 35, 3) := by decide +kernel
theorem dX2_keepEnd_64 : decode cX2_keepEnd 64 = .ok (.return_, 1) := by decide +kernel
/-! all orders, gone through -/
def lvG (μ : va_M) : Prop := ∀ i : Nat, i < 8 → rG μ (116 + i * 15) 96
theorem lvG_fr {μ u : va_M} (h : lvG μ) (hf : ∀ x y, 113 ≤ x → u x y = μ x y) : lvG u := fun i hi => rG_fr (h i hi) (fun x y q1 q2 => hf _ _ (by show_term (have zq0 : True := trivial; omega)))
set_option maxHeartbeats 4000000 in
set_option maxRecDepth 100000 in
theorem s_OkeepEnd (l : Launch) (dC : Nat → ClassId) (dI : Nat → Nat → Nat) (cI cZ cII cIII : ClassId) (h0 sz : Nat) (μ : va_M) (q : Nat) (rm : Nat) (co : Int) (hq : rowB q rm) (h11 : rm = 1100) (hG : rG μ q rm) (ho : ordOK μ) (hco : 0 ≤ co ∧ co ≤ 8000) (hst : 80 ≤ q ∧ q < 110) : Met l yX2_keepEnd (Cond.code yX2_keepEnd cX2_keepEnd 3 none :: wsG) ({ frames := 1, cells := 0, slots := 0, locals := 48 } : Room) (va_Pc [.ref (h0 + 48), .ref (h0 + q), .int (iZ (co))] (fun U => U.heap.size = sz ∧ va_P (dC, dI) vwCl (fw (sE cI cZ cII cIII h0) h0 233 μ) U.heap ∧ va_K (dC, dI) vwCl (sT cI cZ cII cIII) U ∧ xM U)) (va_Qv (fun (u : va_M) => ordOK u ∧ fr (fun x _ => 48 ≤ x ∧ x < 80) μ u) (fun u t => va_P (dC, dI) vwCl (fw (sE cI cZ cII cIII h0) h0 233 u) t.heap ∧ va_K (dC, dI) vwCl (sT cI cZ cII cIII) t) (fA h0 233 sz)) 0 0 (fA h0 233 sz) := by
  refine Met.ofW (cc := cX2_keepEnd) (maxL := 3) (ret := none) (by decide) rfl ?_
  intro p e s m args below meth c s₁ B hml hv
  obtain ⟨rfl, hsz, hP, hK, hM⟩ := hv
  have hx := B.exec
  have hb := B.bytes
  have hr := B.returns
  have hts : ∀ w ∈ wsG, w.before _ s = true := hG_of (atoms_spec (ws := (Cond.code yX2_keepEnd cX2_keepEnd 3 none :: wsG)) B.pre)
  have hown : s.vm.findClass RX2 = some m.cls := findClass_of_methodNamed B.named
  have hlocks := B.notSynchronized
  subst hsz
  have hS : va_S (fA h0 233 s.heap.size) s.heap s.heap [] := va_S.rf
  have hl := lv_entry ([.ref (h0 + 48), .ref (h0 + q), .int (iZ (co))]) (n := 3) (Nat.le_of_ble_eq_true rfl)
  rw [lg_entry_eq]
  generalize (lg_sl ([.ref (h0 + 48), .ref (h0 + q), .int (iZ (co))]) ++ List.replicate (3 - (lg_sl ([.ref (h0 + 48), .ref (h0 + q), .int (iZ (co))])).length) Slot.unset).toArray = ls at hl ⊢
  have hl : lv_has ls 3 [(0, .ref (h0 + 48)), (1, .ref (h0 + q)), (2, .int (iZ (co)))] := hl
  have hln := rG_len hG
  have n1_ := ho.1
  have hqb := rowB_b hq
  refine lv_aload_n hx hb dX2_keepEnd_0 rfl (lv_at hl 0 rfl) ?_
  refine fz_get (D := (dC, dI)) (ci := 2) (v := .int (iZ (μ 48 6))) (C := RX2) (T := TX2) (N := 9) hx hb hts inG2 hown hK hP (k := 48) (by decide) (F := (sF48 h0)) sE_48 rfl 6 (by decide) (hts _ k234) (fun _ h9 => h9) rfl dX2_keepEnd_1 ?_
  refine lv_bipush (v := iZ 24) hx hb dX2_keepEnd_4 rfl ?_
  refine fz_icmp_ge (tgt := 64) (by constructor <;> show_term (have zq1 : True := trivial; omega)) (by decide) hx hb dX2_keepEnd_6 (by decide) (fun c6_ => ?_) (fun c6_ => ?_)
  · exact W.vret hx hb hr (fun t9 ht9 hW9 => ⟨⟨μ, rfl, (by
                try dsimp only
                exact ⟨ho, fr_rfl⟩), by rw [ht9]; exact hP, va_K.moved hW9.alike hK⟩, hS.F ht9⟩) hS.2.2 dX2_keepEnd_64
  · refine lv_aload_n hx hb dX2_keepEnd_9 rfl (lv_at hl 1 rfl) ?_
    refine fz_get (D := (dC, dI)) (ci := 4) (v := .ref (h0 + (q + 1))) (C := RX4) (T := TX4) (N := 8) hx hb hts inG4 hown hK hP (k := q) (by show_term (have zq2 : True := trivial; omega)) (F := (sRF h0 q)) (sE_rowO hq) rfl 0 (by decide) (hts _ k82) (fun _ h9 => h9) rfl dX2_keepEnd_10 ?_
    refine lv_iconst (v := iZ 0) hx hb dX2_keepEnd_13 rfl ?_
    refine lv_aload_n hx hb dX2_keepEnd_14 rfl (lv_at hl 0 rfl) ?_
    refine fz_get (D := (dC, dI)) (ci := 2) (v := .ref (h0 + 52)) (C := RX2) (T := TX2) (N := 9) hx hb hts inG2 hown hK hP (k := 48) (by decide) (F := (sF48 h0)) sE_48 rfl 3 (by decide) (hts _ k231) (fun _ h9 => h9) rfl dX2_keepEnd_15 ?_
    refine lv_aload_n hx hb dX2_keepEnd_18 rfl (lv_at hl 0 rfl) ?_
    refine fz_get (D := (dC, dI)) (ci := 2) (v := .int (iZ (μ 48 6))) (C := RX2) (T := TX2) (N := 9) hx hb hts inG2 hown hK hP (k := 48) (by decide) (F := (sF48 h0)) sE_48 rfl 6 (by decide) (hts _ k234) (fun _ h9 => h9) rfl dX2_keepEnd_19 ?_
    refine fz_ald (k := 52) (n := 24) (k2 := (53 + (μ 48 6).toNat)) hx hb hK hP 2 rfl (by decide) sE_52 rfl ⟨by show_term (have zq3 : True := trivial; omega), by show_term (have zq4 : True := trivial; omega)⟩ (by decide) (if_pos (by show_term (have zq5 : True := trivial; omega))) dX2_keepEnd_22 ?_
    refine lv_iconst (v := iZ 0) hx hb dX2_keepEnd_23 rfl ?_
    refine lv_aload_n hx hb dX2_keepEnd_24 rfl (lv_at hl 1 rfl) ?_
    refine fz_get (D := (dC, dI)) (ci := 4) (v := .int (iZ (μ q 5))) (C := RX4) (T := TX4) (N := 8) hx hb hts inG4 hown hK hP (k := q) (by show_term (have zq6 : True := trivial; omega)) (F := (sRF h0 q)) (sE_rowO hq) rfl 5 (by decide) (hts _ k98) (fun _ h9 => h9) rfl dX2_keepEnd_25 ?_
    refine fz_copy (k0 := (q + 1)) (k1 := (53 + (μ 48 6).toNat)) (n0 := rm) (n1 := 1100) (sp := 0) (dp := 0) (n := (μ q 5)) hx hb (hml.trans hl.1.symm) hown (hts _ k1060) (hts _ k465) (hts _ k464) (hts _ k19) hK hP fA_in hS (by show_term (have zq7 : True := trivial; omega)) (by show_term (have zq8 : True := trivial; omega)) (sE_rowA (r := 1) hq (by decide)) (sE_ends (show (μ 48 6).toNat < 24 by show_term (have zq9 : True := trivial; omega))) rfl (by show_term (have zq10 : True := trivial; omega)) (by decide) (by show_term (have zq11 : True := trivial; omega)) (by show_term (have zq12 : True := trivial; omega)) (by show_term (have zq13 : True := trivial; omega)) (by show_term (have zq14 : True := trivial; omega)) (by show_term (have zq15 : True := trivial; omega)) (Nat.le_of_ble_eq_true rfl) (Nat.le_of_ble_eq_true rfl) dX2_keepEnd_28 (fun H locs hP hS => ?_)
    obtain ⟨μ1, eμ1⟩ : ∃ x : va_M, x = uc μ (q + 1) (0 : Int).toNat (53 + (μ 48 6).toNat) (0 : Int).toNat (μ q 5).toNat := ⟨_, rfl⟩
    rw [← eμ1] at hP
    have ecp := eμ1
    have WE := ord_end (k := (μ 48 6).toNat) (d := 0) (n := (μ q 5).toNat) ho (by show_term (have zq16 : True := trivial; omega)) hG.1
    have m6 : μ1 48 6 = μ 48 6 := by rw [ecp, uc_n (by show_term (have zq17 : True := trivial; omega))]
    have m5 : μ1 q 5 = μ q 5 := by rw [ecp, uc_n (by show_term (have zq18 : True := trivial; omega))]
    have W2 : ordOK μ1 := by rw [ecp]; exact WE
    have F2 : fr (fun x _ => 48 ≤ x ∧ x < 80) μ μ1 := fun x y h => by rw [ecp]; exact uc_n (by show_term (have zq19 : True := trivial; omega))
    refine lv_aload_n hx hb dX2_keepEnd_31 rfl (lv_at hl 0 rfl) ?_
    refine fz_get (D := (dC, dI)) (ci := 2) (v := .ref (h0 + 77)) (C := RX2) (T := TX2) (N := 9) hx hb hts inG2 hown hK hP (k := 48) (by decide) (F := (sF48 h0)) sE_48 rfl 4 (by decide) (hts _ k232) (fun _ h9 => h9) rfl dX2_keepEnd_32 ?_
    refine lv_aload_n hx hb dX2_keepEnd_35 rfl (lv_at hl 0 rfl) ?_
    refine fz_get (D := (dC, dI)) (ci := 2) (v := .int (iZ (μ1 48 6))) (C := RX2) (T := TX2) (N := 9) hx hb hts inG2 hown hK hP (k := 48) (by decide) (F := (sF48 h0)) sE_48 rfl 6 (by decide) (hts _ k234) (fun _ h9 => h9) rfl dX2_keepEnd_36 ?_
    refine lv_aload_n hx hb dX2_keepEnd_39 rfl (lv_at hl 1 rfl) ?_
    refine fz_get (D := (dC, dI)) (ci := 4) (v := .int (iZ (μ1 q 5))) (C := RX4) (T := TX4) (N := 8) hx hb hts inG4 hown hK hP (k := q) (by show_term (have zq20 : True := trivial; omega)) (F := (sRF h0 q)) (sE_rowO hq) rfl 5 (by decide) (hts _ k98) (fun _ h9 => h9) rfl dX2_keepEnd_40 ?_
    refine fz_st (k := 77) (n := 24) (i := (μ1 48 6)) (z := (μ1 q 5)) hx hb hK hP fA_in hS 0 (by decide) sE_77 rfl ⟨by show_term (have zq21 : True := trivial; omega), by show_term (have zq22 : True := trivial; omega)⟩ (by decide) dX2_keepEnd_43 (fun H locs hP hS => ?_)
    obtain ⟨μ2, eμ2⟩ : ∃ x : va_M, x = uz μ1 77 (μ1 48 6).toNat (μ1 q 5) := ⟨_, rfl⟩
    rw [← eμ2] at hP
    refine lv_aload_n hx hb dX2_keepEnd_44 rfl (lv_at hl 0 rfl) ?_
    refine fz_get (D := (dC, dI)) (ci := 2) (v := .ref (h0 + 78)) (C := RX2) (T := TX2) (N := 9) hx hb hts inG2 hown hK hP (k := 48) (by decide) (F := (sF48 h0)) sE_48 rfl 5 (by decide) (hts _ k233) (fun _ h9 => h9) rfl dX2_keepEnd_45 ?_
    refine lv_aload_n hx hb dX2_keepEnd_48 rfl (lv_at hl 0 rfl) ?_
    refine fz_get (D := (dC, dI)) (ci := 2) (v := .int (iZ (μ2 48 6))) (C := RX2) (T := TX2) (N := 9) hx hb hts inG2 hown hK hP (k := 48) (by decide) (F := (sF48 h0)) sE_48 rfl 6 (by decide) (hts _ k234) (fun _ h9 => h9) rfl dX2_keepEnd_49 ?_
    rw [show μ2 48 6 = μ1 48 6 from by rw [eμ2, uz_n (by show_term (have zq23 : True := trivial; omega))]]
    refine lv_iload_n hx hb dX2_keepEnd_52 rfl (lv_at hl 2 rfl) ?_
    refine fz_st (k := 78) (n := 24) (i := (μ1 48 6)) (z := co) hx hb hK hP fA_in hS 0 (by decide) sE_78 rfl ⟨by show_term (have zq24 : True := trivial; omega), by show_term (have zq25 : True := trivial; omega)⟩ (by decide) dX2_keepEnd_53 (fun H locs hP hS => ?_)
    obtain ⟨μ3, eμ3⟩ : ∃ x : va_M, x = uz μ2 78 (μ1 48 6).toNat (co) := ⟨_, rfl⟩
    rw [← eμ3] at hP
    refine lv_aload_n hx hb dX2_keepEnd_54 rfl (lv_at hl 0 rfl) ?_
    refine lv_dup hx hb dX2_keepEnd_55 rfl ?_
    refine fz_get (D := (dC, dI)) (ci := 2) (v := .int (iZ (μ3 48 6))) (C := RX2) (T := TX2) (N := 9) hx hb hts inG2 hown hK hP (k := 48) (by decide) (F := (sF48 h0)) sE_48 rfl 6 (by decide) (hts _ k234) (fun _ h9 => h9) rfl dX2_keepEnd_56 ?_
    rw [show μ3 48 6 = μ1 48 6 from by rw [eμ3, uz_n (by show_term (have zq26 : True := trivial; omega)), eμ2, uz_n (by show_term (have zq27 : True := trivial; omega))]]
    refine lv_iconst (v := iZ 1) hx hb dX2_keepEnd_59 rfl ?_
    refine lv_iadd hx hb dX2_keepEnd_60 ?_
    refine lv_topi (fun x9 ex9 => ?_)
    obtain rfl : x9 = iZ ((μ1 48 6) + 1) := ex9.trans (iZ_add _ _)
    refine fz_put (D := (dC, dI)) (ci := 2) (ty := .int) (z := ((μ1 48 6) + 1)) (C := RX2) (T := TX2) (N := 9) hx hb hts inG2 tyX2 tyX2_ok nmX2 hown hK hP fA_in hS (k := 48) (by decide) (F := (sF48 h0)) sE_48 rfl 6 (by decide) (hts _ k234) (fun _ h9 => h9) rfl (by decide +kernel) rfl rfl (fun _ => Nat.le_of_ble_eq_true rfl) (fun _ _ => rfl) dX2_keepEnd_61 (fun H locs hP hS => ?_)
    obtain ⟨μ4, eμ4⟩ : ∃ x : va_M, x = uz μ3 48 6 ((μ1 48 6) + 1) := ⟨_, rfl⟩
    rw [← eμ4] at hP
    exact W.vret hx hb hr (fun t9 ht9 hW9 => ⟨⟨μ4, rfl, (by
                try dsimp only
                rw [eμ4, eμ3, eμ2]
                exact ⟨ord_uz (ord_uz (ord_uz W2 (by show_term (have zq28 : True := trivial; omega)) (by show_term (have zq29 : True := trivial; omega)) (by show_term (have zq30 : True := trivial; omega)) (by show_term (have zq31 : True := trivial; omega)) (by show_term (have zq32 : True := trivial; omega)) (by show_term (have zq33 : True := trivial; omega))) (by show_term (have zq34 : True := trivial; omega)) (by show_term (have zq35 : True := trivial; omega)) (by show_term (have zq36 : True := trivial; omega)) (by show_term (have zq37 : True := trivial; omega)) (by show_term (have zq38 : True := trivial; omega)) (by show_term (have zq39 : True := trivial; omega))) (by show_term (have zq40 : True := trivial; omega)) (by show_term (have zq41 : True := trivial; omega)) (by show_term (have zq42 : True := trivial; omega)) (by show_term (have zq43 : True := trivial; omega)) (by show_term (have zq44 : True := trivial; omega)) (by show_term (have zq45 : True := trivial; omega)), fr_uz (fr_uz (fr_uz F2 (by show_term (have zq46 : True := trivial; omega))) (by show_term (have zq47 : True := trivial; omega))) (by show_term (have zq48 : True := trivial; omega))⟩), by rw [ht9]; exact hP, va_K.moved hW9.alike hK⟩, hS.F ht9⟩) hS.2.2 dX2_keepEnd_64
set_option maxHeartbeats 4000000 in
set_option maxRecDepth 100000 in
theorem LX2_goThroughAll_17 {p : Program} {l : Launch} {e : Env} {R : Room} {s : State} {m : MethodId} {args : Array Value} {below : List Frame} {meth : Method} {c : Code} {cells slots : Nat} {Q : State → Prop} {dC : Nat → ClassId} {dI : Nat → Nat → Nat} {h0 : Nat} {cI cZ cII cIII : ClassId} (hx : p.tables.exec = Jvm.exec) (hb : c.code = cX2_goThroughAll) (hml : c.maxLocals = 8) (hown : s.vm.findClass RX2 = some m.cls) (hts : ∀ w ∈ wsG, w.before args s = true) (hK : va_K (dC, dI) vwCl (sT cI cZ cII cIII) s) (hM : xM s) (hRf : 7 ≤ R.frames) (hRl : 163 ≤ R.locals) (hRc : cells ≤ R.cells) (hRs : slots ≤ R.slots) (μ0 : va_M) (hexit41 : ∀ (i : Int) (μ : va_M) (H : Heap) (locs : List Loc) (ls : Array Slot), (fr (fun x _ => (41 ≤ x ∧ x ≤ 44) ∨ (48 ≤ x ∧ x < 110)) μ0 μ) → (ordOK μ) → va_P (dC, dI) vwCl (fw (sE cI cZ cII cIII h0) h0 233 μ) H → va_S (fA h0 233 s.heap.size) s.heap H locs → lv_has ls 8 [(3, .ref (h0 + 41)), (1, .ref (h0 + 5)), (0, .ref (h0 + 48))] → W p l e R s m args below meth c H locs cells slots Q (F0 m 41 ls [])) :
    ∀ (n9 : Nat) (i : Int) (μ : va_M) (H : Heap) (locs : List Loc) (ls : Array Slot), (0 ≤ i ∧ i ≤ 4) → (fr (fun x _ => (41 ≤ x ∧ x ≤ 44) ∨ (48 ≤ x ∧ x < 110)) μ0 μ) → (ordOK μ) → (5 - i).toNat < n9 → va_P (dC, dI) vwCl (fw (sE cI cZ cII cIII h0) h0 233 μ) H → va_S (fA h0 233 s.heap.size) s.heap H locs → lv_has ls 8 [(4, .int (iZ (i))), (3, .ref (h0 + 41)), (1, .ref (h0 + 5)), (0, .ref (h0 + 48))] → W p l e R s m args below meth c H locs cells slots Q (F0 m 17 ls []) := by
  intro n9
  induction n9 with
  | zero => intro i μ H locs ls hi hf ho hm9 hP hS hl; exact absurd hm9 (Nat.not_lt_zero _)
  | succ n9 ih =>
    intro i μ H locs ls hi hf ho hm9 hP hS hl
    have n1_ := ho.1
    refine lv_iload hx hb dX2_goThroughAll_17 (lv_at hl 0 rfl) ?_
    refine lv_aload_n hx hb dX2_goThroughAll_19 rfl (lv_at hl 3 rfl) ?_
    refine fz_get (D := (dC, dI)) (ci := 2) (v := .int (iZ (μ 48 7))) (C := RX2) (T := TX2) (N := 9) hx hb hts inG2 hown hK hP (k := 48) (by decide) (F := (sF48 h0)) sE_48 rfl 7 (by decide) (hts _ k235) (fun _ h9 => h9) rfl dX2_goThroughAll_20 ?_
    refine fz_icmp_ge (tgt := 41) (by constructor <;> show_term (have zq49 : True := trivial; omega)) (by constructor <;> show_term (have zq50 : True := trivial; omega)) hx hb dX2_goThroughAll_23 (by decide) (fun c23_ => ?_) (fun c23_ => ?_)
    · exact hexit41 (i) μ H locs ls (by exact hf) (by exact ho) hP hS (lv_sub hl [1, 2, 3] rfl)
    · refine lv_aload_n hx hb dX2_goThroughAll_26 rfl (lv_at hl 3 rfl) ?_
      refine fz_get (D := (dC, dI)) (ci := 2) (v := .ref (h0 + 49)) (C := RX2) (T := TX2) (N := 9) hx hb hts inG2 hown hK hP (k := 48) (by decide) (F := (sF48 h0)) sE_48 rfl 0 (by decide) (hts _ k228) (fun _ h9 => h9) rfl dX2_goThroughAll_27 ?_
      refine lv_iload hx hb dX2_goThroughAll_30 (lv_at hl 0 rfl) ?_
      refine lv_iload hx hb dX2_goThroughAll_32 (lv_at hl 0 rfl) ?_
      refine fz_st (k := 49) (n := 4) (i := i) (z := i) hx hb hK hP fA_in hS 0 (by decide) sE_49 rfl ⟨by show_term (have zq51 : True := trivial; omega), by show_term (have zq52 : True := trivial; omega)⟩ (by decide) dX2_goThroughAll_34 (fun H locs hP hS => ?_)
      obtain ⟨μ1, eμ1⟩ : ∃ x : va_M, x = uz μ 49 (i).toNat (i) := ⟨_, rfl⟩
      rw [← eμ1] at hP
      refine lv_iinc (v := iZ (i + 1)) (lv' := [(4, .int (iZ (i + 1))), (3, .ref (h0 + 41)), (1, .ref (h0 + 5)), (0, .ref (h0 + 48))]) hx hb dX2_goThroughAll_35 hl (k := 0) rfl (iZ_add _ _) (by decide) rfl (fun ls hl => ?_)
      refine lv_goto (tgt := 17) hx hb dX2_goThroughAll_38 (by decide) ?_
      exact ih (i + 1) μ1 H locs ls (by show_term (have zq53 : True := trivial; omega)) (by rw [eμ1]; exact fr_uz hf (by show_term (have zq54 : True := trivial; omega))) (by rw [eμ1]; exact ord_uz ho (by show_term (have zq55 : True := trivial; omega)) (by show_term (have zq56 : True := trivial; omega)) (by show_term (have zq57 : True := trivial; omega)) (by show_term (have zq58 : True := trivial; omega)) (by show_term (have zq59 : True := trivial; omega)) (by show_term (have zq60 : True := trivial; omega))) (by show_term (have zq61 : True := trivial; omega)) hP hS (lv_sub hl [0, 1, 2, 3] rfl)
set_option maxHeartbeats 4000000 in
set_option maxRecDepth 100000 in
theorem LX2_goThroughAll_63 {p : Program} {l : Launch} {e : Env} {R : Room} {s : State} {m : MethodId} {args : Array Value} {below : List Frame} {meth : Method} {c : Code} {cells slots : Nat} {Q : State → Prop} {dC : Nat → ClassId} {dI : Nat → Nat → Nat} {h0 : Nat} {cI cZ cII cIII : ClassId} (hx : p.tables.exec = Jvm.exec) (hb : c.code = cX2_goThroughAll) (hml : c.maxLocals = 8) (hown : s.vm.findClass RX2 = some m.cls) (hts : ∀ w ∈ wsG, w.before args s = true) (hK : va_K (dC, dI) vwCl (sT cI cZ cII cIII) s) (hM : xM s) (hRf : 7 ≤ R.frames) (hRl : 163 ≤ R.locals) (hRc : cells ≤ R.cells) (hRs : slots ≤ R.slots) (μ0 : va_M) (tu : Int) (hlv : lvG μ0) (hexit131 : ∀ (i : Int) (μ : va_M) (H : Heap) (locs : List Loc) (ls : Array Slot), (fr (fun x _ => (41 ≤ x ∧ x ≤ 44) ∨ (48 ≤ x ∧ x < 110)) μ0 μ) → (ordOK μ) → va_P (dC, dI) vwCl (fw (sE cI cZ cII cIII h0) h0 233 μ) H → va_S (fA h0 233 s.heap.size) s.heap H locs → lv_has ls 8 [(5, .int (iZ (tu))), (3, .ref (h0 + 41)), (1, .ref (h0 + 5)), (0, .ref (h0 + 48))] → W p l e R s m args below meth c H locs cells slots Q (F0 m 131 ls [])) :
    ∀ (n9 : Nat) (i : Int) (μ : va_M) (H : Heap) (locs : List Loc) (ls : Array Slot), (0 ≤ i ∧ i ≤ 4) → (fr (fun x _ => (41 ≤ x ∧ x ≤ 44) ∨ (48 ≤ x ∧ x < 110)) μ0 μ) → (ordOK μ) → (5 - i).toNat < n9 → va_P (dC, dI) vwCl (fw (sE cI cZ cII cIII h0) h0 233 μ) H → va_S (fA h0 233 s.heap.size) s.heap H locs → lv_has ls 8 [(6, .int (iZ (i))), (5, .int (iZ (tu))), (3, .ref (h0 + 41)), (1, .ref (h0 + 5)), (0, .ref (h0 + 48))] → W p l e R s m args below meth c H locs cells slots Q (F0 m 63 ls []) := by
  intro n9
  induction n9 with
  | zero => intro i μ H locs ls hi hf ho hm9 hP hS hl; exact absurd hm9 (Nat.not_lt_zero _)
  | succ n9 ih =>
    intro i μ H locs ls hi hf ho hm9 hP hS hl
    have hl8 : lvG μ := lvG_fr hlv (fun x y h => hf _ _ (by show_term (have zq62 : True := trivial; omega)))
    have n1_ := ho.1
    have n2_ := ho.2.1 i.toNat
    refine lv_iload hx hb dX2_goThroughAll_63 (lv_at hl 0 rfl) ?_
    refine lv_aload_n hx hb dX2_goThroughAll_65 rfl (lv_at hl 4 rfl) ?_
    refine fz_get (D := (dC, dI)) (ci := 2) (v := .int (iZ (μ 48 7))) (C := RX2) (T := TX2) (N := 9) hx hb hts inG2 hown hK hP (k := 48) (by decide) (F := (sF48 h0)) sE_48 rfl 7 (by decide) (hts _ k235) (fun _ h9 => h9) rfl dX2_goThroughAll_66 ?_
    refine fz_icmp_ge (tgt := 131) (by constructor <;> show_term (have zq63 : True := trivial; omega)) (by constructor <;> show_term (have zq64 : True := trivial; omega)) hx hb dX2_goThroughAll_69 (by decide) (fun c69_ => ?_) (fun c69_ => ?_)
    · exact hexit131 (i) μ H locs ls (by exact hf) (by exact ho) hP hS (lv_sub hl [1, 2, 3, 4] rfl)
    · have g1_ := ho.2.2.2.2.2.2 i.toNat (by show_term (have zq65 : True := trivial; omega))
      have g2_ := ho.2.2.2.2.2.2 (i + 1).toNat (by show_term (have zq66 : True := trivial; omega))
      have g3_ := hl8 (μ 49 i.toNat).toNat (by show_term (have zq67 : True := trivial; omega))
      have s1_ := ho.2.2.1 i.toNat (by show_term (have zq68 : True := trivial; omega))
      refine lv_aload_n hx hb dX2_goThroughAll_72 rfl (lv_at hl 4 rfl) ?_
      refine fz_get (D := (dC, dI)) (ci := 2) (v := .ref (h0 + 50)) (C := RX2) (T := TX2) (N := 9) hx hb hts inG2 hown hK hP (k := 48) (by decide) (F := (sF48 h0)) sE_48 rfl 1 (by decide) (hts _ k229) (fun _ h9 => h9) rfl dX2_goThroughAll_73 ?_
      refine lv_iload hx hb dX2_goThroughAll_76 (lv_at hl 0 rfl) ?_
      refine fz_ald (k := 50) (n := 5) (k2 := (80 + (i).toNat * 6)) hx hb hK hP 3 rfl (by decide) sE_50 rfl ⟨by show_term (have zq69 : True := trivial; omega), by show_term (have zq70 : True := trivial; omega)⟩ (by decide) (if_pos (by show_term (have zq71 : True := trivial; omega))) dX2_goThroughAll_78 ?_
      refine lv_aload_n hx hb dX2_goThroughAll_79 rfl (lv_at hl 3 rfl) ?_
      refine lv_aload_n hx hb dX2_goThroughAll_80 rfl (lv_at hl 4 rfl) ?_
      refine fz_get (D := (dC, dI)) (ci := 2) (v := .ref (h0 + 49)) (C := RX2) (T := TX2) (N := 9) hx hb hts inG2 hown hK hP (k := 48) (by decide) (F := (sF48 h0)) sE_48 rfl 0 (by decide) (hts _ k228) (fun _ h9 => h9) rfl dX2_goThroughAll_81 ?_
      refine lv_iload hx hb dX2_goThroughAll_84 (lv_at hl 0 rfl) ?_
      refine fz_ld (k := 49) (n := 4) hx hb hK hP 0 (by decide) sE_49 rfl ⟨by show_term (have zq72 : True := trivial; omega), by show_term (have zq73 : True := trivial; omega)⟩ (by decide) dX2_goThroughAll_86 ?_
      refine fz_ald (k := 5) (n := 8) (k2 := (113 + (μ 49 (i).toNat).toNat * 15)) hx hb hK hP 1 rfl (by decide) sE_5 rfl ⟨by show_term (have zq74 : True := trivial; omega), by show_term (have zq75 : True := trivial; omega)⟩ (by decide) (if_pos (by show_term (have zq76 : True := trivial; omega))) dX2_goThroughAll_87 ?_
      refine fz_get (D := (dC, dI)) (ci := 1) (v := .ref (h0 + ((113 + (μ 49 (i).toNat).toNat * 15) + 3))) (C := RX1) (T := TX1) (N := 8) hx hb hts inG1 hown hK hP (k := (113 + (μ 49 (i).toNat).toNat * 15)) (by show_term (have zq77 : True := trivial; omega)) (F := (sLF h0 (113 + (μ 49 (i).toNat).toNat * 15))) (sE_leafO (show (μ 49 (i).toNat).toNat < 8 by show_term (have zq78 : True := trivial; omega)) rfl) rfl 3 (by decide) (hts _ k303) (fun _ h9 => h9) rfl dX2_goThroughAll_88 ?_
      refine lv_aload_n hx hb dX2_goThroughAll_91 rfl (lv_at hl 4 rfl) ?_
      refine fz_get (D := (dC, dI)) (ci := 2) (v := .ref (h0 + 50)) (C := RX2) (T := TX2) (N := 9) hx hb hts inG2 hown hK hP (k := 48) (by decide) (F := (sF48 h0)) sE_48 rfl 1 (by decide) (hts _ k229) (fun _ h9 => h9) rfl dX2_goThroughAll_92 ?_
      refine lv_iload hx hb dX2_goThroughAll_95 (lv_at hl 0 rfl) ?_
      refine lv_iconst (v := iZ 1) hx hb dX2_goThroughAll_97 rfl ?_
      refine lv_iadd hx hb dX2_goThroughAll_98 ?_
      refine lv_topi (fun x9 ex9 => ?_)
      obtain rfl : x9 = iZ (i + 1) := ex9.trans (iZ_add _ _)
      refine fz_ald (k := 50) (n := 5) (k2 := (80 + (i + 1).toNat * 6)) hx hb hK hP 3 rfl (by decide) sE_50 rfl ⟨by show_term (have zq79 : True := trivial; omega), by show_term (have zq80 : True := trivial; omega)⟩ (by decide) (if_pos (by show_term (have zq81 : True := trivial; omega))) dX2_goThroughAll_99 ?_
      refine lv_aload_n hx hb dX2_goThroughAll_100 rfl (lv_at hl 2 rfl) ?_
      refine va_calli (va_runS (As := [.ref (h0 + (80 + (i).toNat * 6)), .ref (h0 + ((113 + (μ 49 (i).toNat).toNat * 15) + 3)), .ref (h0 + (80 + (i + 1).toNat * 6)), .ref (h0 + 41)]) (rest := []) ⟨hx, hb, hml, hown, hts⟩ (s_OlayNext l dC dI cI cZ cII cIII h0 H.size μ ((80 + (i).toNat * 6)) (1100) (((113 + (μ 49 (i).toNat).toNat * 15) + 3)) (96) ((80 + (i + 1).toNat * 6)) (1100) ((rowB_80 (show (i).toNat < 5 by show_term (have zq82 : True := trivial; omega)))) ((rowB_L (show (μ 49 (i).toNat).toNat < 8 by show_term (have zq83 : True := trivial; omega)) rfl)) ((rowB_80 (show (i + 1).toNat < 5 by show_term (have zq84 : True := trivial; omega)))) (by unfold apart; show_term (have zq85 : True := trivial; omega)) (by unfold apart; show_term (have zq86 : True := trivial; omega)) (by exact g1_) (by rw [show 113 + (μ 49 i.toNat).toNat * 15 + 3 = 116 + (μ 49 i.toNat).toNat * 15 by show_term (have zq87 : True := trivial; omega)]; exact g3_) (by rfl) (by exact g2_)) (cwS 4 hts (gS_G k1050 k1051 k9 k1052) rfl rfl rfl (by decide +kernel) ⟨by show 6 + 1 ≤ _; show_term (have zq88 : True := trivial; omega), by show 8 + (5 + 11) + (139) ≤ _; show_term (have zq89 : True := trivial; omega)⟩) ⟨fun a U g mk q => by obtain ⟨q0, q1, qP, qK, qM⟩ := q; exact ⟨q0, q1, qP, va_K.moved (u := U) (U := U.calling g mk a) (Vm.Alike.refl U.vm) qK, qM⟩, fun U hU hW => ⟨rfl, by rw [hU], by rw [hU]; exact hP, va_K.moved hW.alike hK, xM_warm hW hM⟩⟩ rfl rfl hl.1 rfl (lv_room (Nat.le_of_ble_eq_true rfl)) dX2_goThroughAll_101 ⟨hRc, hRs⟩) hS (fun q _ h => fA_le hS.1 q h) (fA_le hS.1) (fun r9 u9 t9 H1 locs ht9 hvm9 hw9 hB9 hz9 hk9 hS => ?_)
      obtain ⟨μn, rn⟩ := u9
      obtain ⟨hP, -⟩ := hB9
      rw [ht9] at hP
      generalize H1 = H at hP hS ⊢
      obtain ⟨e9, hw9⟩ := hw9
      have e9 : r9 = iZ rn := e9
      subst e9
      simp only at hP hw9
      have hμn := hw9; clear hw9
      obtain ⟨a1_, a2_, a3_⟩ := hμn
      have O9 : ordOK μn := ord_st (i3 := (i + 1).toNat) ho (by show_term (have zq90 : True := trivial; omega)) (fun x y h1 h2 h3 => a2_ _ _ (by unfold LEq; show_term (have zq91 : True := trivial; omega))) a1_
      have F9 : fr (fun x _ => (41 ≤ x ∧ x ≤ 44) ∨ (48 ≤ x ∧ x < 110)) μ0 μn := fr_trans hf (fr_mono a2_ (fun x y h => by unfold LEq at h; show_term (have zq92 : True := trivial; omega)))
      have x51 : ∀ y, μn 51 y = μ 51 y := fun y => a2_ _ _ (by unfold LEq; show_term (have zq93 : True := trivial; omega))
      have s2_ := x51 i.toNat
      refine lv_istore (lv' := [(7, .int (iZ (rn))), (6, .int (iZ (i))), (5, .int (iZ (tu))), (3, .ref (h0 + 41)), (1, .ref (h0 + 5)), (0, .ref (h0 + 48))]) hx hb dX2_goThroughAll_104 hl (by decide) rfl (fun ls hl => ?_)
      refine lv_aload_n hx hb dX2_goThroughAll_106 rfl (lv_at hl 5 rfl) ?_
      refine fz_get (D := (dC, dI)) (ci := 2) (v := .ref (h0 + 51)) (C := RX2) (T := TX2) (N := 9) hx hb hts inG2 hown hK hP (k := 48) (by decide) (F := (sF48 h0)) sE_48 rfl 2 (by decide) (hts _ k230) (fun _ h9 => h9) rfl dX2_goThroughAll_107 ?_
      refine lv_iload hx hb dX2_goThroughAll_110 (lv_at hl 1 rfl) ?_
      refine lv_iconst (v := iZ 1) hx hb dX2_goThroughAll_112 rfl ?_
      refine lv_iadd hx hb dX2_goThroughAll_113 ?_
      refine lv_topi (fun x9 ex9 => ?_)
      obtain rfl : x9 = iZ (i + 1) := ex9.trans (iZ_add _ _)
      refine lv_aload_n hx hb dX2_goThroughAll_114 rfl (lv_at hl 5 rfl) ?_
      refine fz_get (D := (dC, dI)) (ci := 2) (v := .ref (h0 + 51)) (C := RX2) (T := TX2) (N := 9) hx hb hts inG2 hown hK hP (k := 48) (by decide) (F := (sF48 h0)) sE_48 rfl 2 (by decide) (hts _ k230) (fun _ h9 => h9) rfl dX2_goThroughAll_115 ?_
      refine lv_iload hx hb dX2_goThroughAll_118 (lv_at hl 1 rfl) ?_
      refine fz_ld (k := 51) (n := 5) hx hb hK hP 0 (by decide) sE_51 rfl ⟨by show_term (have zq94 : True := trivial; omega), by show_term (have zq95 : True := trivial; omega)⟩ (by decide) dX2_goThroughAll_120 ?_
      refine lv_iload hx hb dX2_goThroughAll_121 (lv_at hl 0 rfl) ?_
      refine lv_iadd hx hb dX2_goThroughAll_123 ?_
      refine lv_topi (fun x9 ex9 => ?_)
      obtain rfl : x9 = iZ ((μn 51 (i).toNat) + rn) := ex9.trans (iZ_add _ _)
      refine fz_st (k := 51) (n := 5) (i := (i + 1)) (z := ((μn 51 (i).toNat) + rn)) hx hb hK hP fA_in hS 0 (by decide) sE_51 rfl ⟨by show_term (have zq96 : True := trivial; omega), by show_term (have zq97 : True := trivial; omega)⟩ (by decide) dX2_goThroughAll_124 (fun H locs hP hS => ?_)
      obtain ⟨μ2, eμ2⟩ : ∃ x : va_M, x = uz μn 51 (i + 1).toNat ((μn 51 (i).toNat) + rn) := ⟨_, rfl⟩
      rw [← eμ2] at hP
      refine lv_iinc (v := iZ (i + 1)) (lv' := [(6, .int (iZ (i + 1))), (7, .int (iZ (rn))), (5, .int (iZ (tu))), (3, .ref (h0 + 41)), (1, .ref (h0 + 5)), (0, .ref (h0 + 48))]) hx hb dX2_goThroughAll_125 hl (k := 1) rfl (iZ_add _ _) (by decide) rfl (fun ls hl => ?_)
      refine lv_goto (tgt := 63) hx hb dX2_goThroughAll_128 (by decide) ?_
      exact ih (i + 1) μ2 H locs ls (by show_term (have zq98 : True := trivial; omega)) (by rw [eμ2]; exact fr_uz F9 (by show_term (have zq99 : True := trivial; omega))) (by rw [eμ2]; exact ord_uz O9 (by show_term (have zq100 : True := trivial; omega)) (by show_term (have zq101 : True := trivial; omega)) (by show_term (have zq102 : True := trivial; omega)) (by show_term (have zq103 : True := trivial; omega)) (by show_term (have zq104 : True := trivial; omega)) (by show_term (have zq105 : True := trivial; omega))) (by show_term (have zq106 : True := trivial; omega)) hP hS (lv_sub hl [0, 2, 3, 4, 5] rfl)
set_option maxHeartbeats 4000000 in
set_option maxRecDepth 100000 in
theorem LX2_goThroughAll_47 {p : Program} {l : Launch} {e : Env} {R : Room} {s : State} {m : MethodId} {args : Array Value} {below : List Frame} {meth : Method} {c : Code} {cells slots : Nat} {Q : State → Prop} {dC : Nat → ClassId} {dI : Nat → Nat → Nat} {h0 : Nat} {cI cZ cII cIII : ClassId} (hx : p.tables.exec = Jvm.exec) (hb : c.code = cX2_goThroughAll) (hml : c.maxLocals = 8) (hown : s.vm.findClass RX2 = some m.cls) (hts : ∀ w ∈ wsG, w.before args s = true) (hK : va_K (dC, dI) vwCl (sT cI cZ cII cIII) s) (hM : xM s) (hRf : 7 ≤ R.frames) (hRl : 163 ≤ R.locals) (hRc : cells ≤ R.cells) (hRs : slots ≤ R.slots) (μ0 : va_M) (hlv : lvG μ0) (hexit165 : ∀ (tu : Int) (ch : Int) (μ : va_M) (H : Heap) (locs : List Loc) (ls : Array Slot), (fr (fun x _ => (41 ≤ x ∧ x ≤ 44) ∨ (48 ≤ x ∧ x < 110)) μ0 μ) → (ordOK μ) → va_P (dC, dI) vwCl (fw (sE cI cZ cII cIII h0) h0 233 μ) H → va_S (fA h0 233 s.heap.size) s.heap H locs → lv_has ls 8 [(0, .ref (h0 + 48))] → W p l e R s m args below meth c H locs cells slots Q (F0 m 165 ls [])) :
    ∀ (n9 : Nat) (tu : Int) (ch : Int) (μ : va_M) (H : Heap) (locs : List Loc) (ls : Array Slot), (0 ≤ tu ∧ tu ≤ 24 ∧ -1 ≤ ch ∧ ch ≤ 4) → (fr (fun x _ => (41 ≤ x ∧ x ≤ 44) ∨ (48 ≤ x ∧ x < 110)) μ0 μ) → (ordOK μ) → (25 - tu).toNat < n9 → va_P (dC, dI) vwCl (fw (sE cI cZ cII cIII h0) h0 233 μ) H → va_S (fA h0 233 s.heap.size) s.heap H locs → lv_has ls 8 [(5, .int (iZ (tu))), (4, .int (iZ (ch))), (3, .ref (h0 + 41)), (1, .ref (h0 + 5)), (0, .ref (h0 + 48))] → W p l e R s m args below meth c H locs cells slots Q (F0 m 47 ls []) := by
  intro n9
  induction n9 with
  | zero => intro tu ch μ H locs ls hi hf ho hm9 hP hS hl; exact absurd hm9 (Nat.not_lt_zero _)
  | succ n9 ih =>
    intro tu ch μ H locs ls hi hf ho hm9 hP hS hl
    refine lv_iload hx hb dX2_goThroughAll_47 (lv_at hl 0 rfl) ?_
    refine lv_bipush (v := iZ 24) hx hb dX2_goThroughAll_49 rfl ?_
    refine fz_icmp_ge (tgt := 165) (by constructor <;> show_term (have zq107 : True := trivial; omega)) (by decide) hx hb dX2_goThroughAll_51 (by decide) (fun c51_ => ?_) (fun c51_ => ?_)
    · exact hexit165 (tu) (ch) μ H locs ls (by exact hf) (by exact ho) hP hS (lv_sub hl [4] rfl)
    · refine lv_iload hx hb dX2_goThroughAll_54 (lv_at hl 1 rfl) ?_
      refine fz_if_lt (tgt := 165) (by constructor <;> show_term (have zq108 : True := trivial; omega)) hx hb dX2_goThroughAll_56 (by decide) (fun c56_ => ?_) (fun c56_ => ?_)
      · exact hexit165 (tu) (ch) μ H locs ls (by exact hf) (by exact ho) hP hS (lv_sub hl [4] rfl)
      · refine lv_iload hx hb dX2_goThroughAll_59 (lv_at hl 1 rfl) ?_
        refine lv_istore (lv' := [(6, .int (iZ (ch))), (5, .int (iZ (tu))), (4, .int (iZ (ch))), (3, .ref (h0 + 41)), (1, .ref (h0 + 5)), (0, .ref (h0 + 48))]) hx hb dX2_goThroughAll_61 hl (by decide) rfl (fun ls hl => ?_)
        refine LX2_goThroughAll_63 hx hb hml hown hts hK hM hRf hRl hRc hRs (μ0) (tu) (by exact hlv) ?_ _ (ch) μ H locs ls (by show_term (have zq109 : True := trivial; omega)) (by exact hf) (by exact ho) (Nat.lt_succ_self _) hP hS (lv_sub hl [0, 1, 3, 4, 5] rfl)
        · intro i_3 μ3_ H locs ls q1_3 q2_3 hP hS hl
          have hl : lv_has ls 8 [(5, .int (iZ (tu))), (3, .ref (h0 + 41)), (1, .ref (h0 + 5)), (0, .ref (h0 + 48))] := hl
          have Q1 := q1_3
          have Q2 := q2_3
          have n1_ := Q2.1
          have g4_ := Q2.2.2.2.2.2.2 (μ3_ 48 7).toNat (by show_term (have zq110 : True := trivial; omega))
          have s3_ := Q2.2.2.1 (μ3_ 48 7).toNat (by show_term (have zq111 : True := trivial; omega))
          refine lv_aload_n hx hb dX2_goThroughAll_131 rfl (lv_at hl 3 rfl) ?_
          refine lv_aload_n hx hb dX2_goThroughAll_132 rfl (lv_at hl 3 rfl) ?_
          refine fz_get (D := (dC, dI)) (ci := 2) (v := .ref (h0 + 50)) (C := RX2) (T := TX2) (N := 9) hx hb hts inG2 hown hK hP (k := 48) (by decide) (F := (sF48 h0)) sE_48 rfl 1 (by decide) (hts _ k229) (fun _ h9 => h9) rfl dX2_goThroughAll_133 ?_
          refine lv_aload_n hx hb dX2_goThroughAll_136 rfl (lv_at hl 3 rfl) ?_
          refine fz_get (D := (dC, dI)) (ci := 2) (v := .int (iZ (μ3_ 48 7))) (C := RX2) (T := TX2) (N := 9) hx hb hts inG2 hown hK hP (k := 48) (by decide) (F := (sF48 h0)) sE_48 rfl 7 (by decide) (hts _ k235) (fun _ h9 => h9) rfl dX2_goThroughAll_137 ?_
          refine fz_ald (k := 50) (n := 5) (k2 := (80 + (μ3_ 48 7).toNat * 6)) hx hb hK hP 3 rfl (by decide) sE_50 rfl ⟨by show_term (have zq112 : True := trivial; omega), by show_term (have zq113 : True := trivial; omega)⟩ (by decide) (if_pos (by show_term (have zq114 : True := trivial; omega))) dX2_goThroughAll_140 ?_
          refine lv_aload_n hx hb dX2_goThroughAll_141 rfl (lv_at hl 3 rfl) ?_
          refine fz_get (D := (dC, dI)) (ci := 2) (v := .ref (h0 + 51)) (C := RX2) (T := TX2) (N := 9) hx hb hts inG2 hown hK hP (k := 48) (by decide) (F := (sF48 h0)) sE_48 rfl 2 (by decide) (hts _ k230) (fun _ h9 => h9) rfl dX2_goThroughAll_142 ?_
          refine lv_aload_n hx hb dX2_goThroughAll_145 rfl (lv_at hl 3 rfl) ?_
          refine fz_get (D := (dC, dI)) (ci := 2) (v := .int (iZ (μ3_ 48 7))) (C := RX2) (T := TX2) (N := 9) hx hb hts inG2 hown hK hP (k := 48) (by decide) (F := (sF48 h0)) sE_48 rfl 7 (by decide) (hts _ k235) (fun _ h9 => h9) rfl dX2_goThroughAll_146 ?_
          refine fz_ld (k := 51) (n := 5) hx hb hK hP 0 (by decide) sE_51 rfl ⟨by show_term (have zq115 : True := trivial; omega), by show_term (have zq116 : True := trivial; omega)⟩ (by decide) dX2_goThroughAll_149 ?_
          refine va_callv (va_runV (As := [.ref (h0 + (80 + (μ3_ 48 7).toNat * 6)), .int (iZ (μ3_ 51 (μ3_ 48 7).toNat))]) (rest := []) ⟨hx, hb, hml, hown, hts⟩ (s_OkeepEnd l dC dI cI cZ cII cIII h0 H.size μ3_ ((80 + (μ3_ 48 7).toNat * 6)) (1100) (μ3_ 51 (μ3_ 48 7).toNat) ((rowB_80 (show (μ3_ 48 7).toNat < 5 by show_term (have zq117 : True := trivial; omega)))) (by rfl) (by exact g4_) (by exact Q2) (by show_term (have zq118 : True := trivial; omega)) (by show_term (have zq119 : True := trivial; omega))) (cwV 2 hts (gV_G k1056 k1058 ks_yX2_keepEnd k9 k1059) rfl rfl rfl (by decide +kernel) ⟨by show 1 + 1 ≤ _; show_term (have zq120 : True := trivial; omega), by show 8 + (3 + 11) + (48) ≤ _; show_term (have zq121 : True := trivial; omega)⟩) ⟨fun a U g mk q => by obtain ⟨q0, q1, qP, qK, qM⟩ := q; exact ⟨q0, q1, qP, va_K.moved (u := U) (U := U.calling g mk a) (Vm.Alike.refl U.vm) qK, qM⟩, va_recv hK hP (ci := 2) (q0 := 48) rfl ((fw_get (by decide)).trans (by rw [sE_48])), fun U hU hW => ⟨rfl, by rw [hU], by rw [hU]; exact hP, va_K.moved hW.alike hK, xM_warm hW hM⟩⟩ rfl rfl hl.1 rfl (lv_room (Nat.le_of_ble_eq_true rfl)) dX2_goThroughAll_150 ⟨hRc, hRs⟩) hS (fun q _ h => fA_le hS.1 q h) (fA_le hS.1) (fun u9 t9 H1 locs ht9 hvm9 hw9 hB9 hz9 hk9 hS => ?_)
          obtain ⟨hP, -⟩ := hB9
          rw [ht9] at hP
          generalize H1 = H at hP hS ⊢
          obtain ⟨μk, eμk⟩ : ∃ x : va_M, x = u9 := ⟨_, rfl⟩
          rw [← eμk] at hP hw9
          have hμk := hw9; clear hw9
          obtain ⟨k1_, k2_⟩ := hμk
          have n2_ := k1_.1
          refine lv_aload_n hx hb dX2_goThroughAll_153 rfl (lv_at hl 3 rfl) ?_
          refine va_calli (va_runV (As := []) (rest := []) ⟨hx, hb, hml, hown, hts⟩ (s_OgoToNextOrder l dC dI cI cZ cII cIII h0 H.size μk  (by show_term (have zq122 : True := trivial; omega)) (by exact k1_.2.1)) (cwV 0 hts (gV_G k1061 k1063 ks_yX2_goToNextOrder k9 k1064) rfl rfl rfl (by decide +kernel) ⟨by show 2 + 1 ≤ _; show_term (have zq123 : True := trivial; omega), by show 8 + (5 + 11) + (37) ≤ _; show_term (have zq124 : True := trivial; omega)⟩) ⟨fun a U g mk q => by obtain ⟨q0, q1, qP, qK, qM⟩ := q; exact ⟨q0, q1, qP, va_K.moved (u := U) (U := U.calling g mk a) (Vm.Alike.refl U.vm) qK, qM⟩, va_recv hK hP (ci := 2) (q0 := 48) rfl ((fw_get (by decide)).trans (by rw [sE_48])), fun U hU hW => ⟨rfl, by rw [hU], by rw [hU]; exact hP, va_K.moved hW.alike hK, xM_warm hW hM⟩⟩ rfl rfl hl.1 rfl (lv_room (Nat.le_of_ble_eq_true rfl)) dX2_goThroughAll_154 ⟨hRc, hRs⟩) hS (fun q _ h => fA_le hS.1 q h) (fA_le hS.1) (fun r9 u9 t9 H1 locs ht9 hvm9 hw9 hB9 hz9 hk9 hS => ?_)
          obtain ⟨μg, rg⟩ := u9
          obtain ⟨hP, -⟩ := hB9
          rw [ht9] at hP
          generalize H1 = H at hP hS ⊢
          obtain ⟨e9, hw9⟩ := hw9
          have e9 : r9 = iZ rg := e9
          subst e9
          simp only at hP hw9
          have hμg := hw9; clear hw9
          obtain ⟨h1_, h2_, h3_⟩ := hμg
          have O5 : ordOK μg := ord_49 k1_ h1_ h2_
          refine lv_istore (lv' := [(4, .int (iZ (rg))), (5, .int (iZ (tu))), (3, .ref (h0 + 41)), (1, .ref (h0 + 5)), (0, .ref (h0 + 48))]) hx hb dX2_goThroughAll_157 hl (by decide) rfl (fun ls hl => ?_)
          refine lv_iinc (v := iZ (tu + 1)) (lv' := [(5, .int (iZ (tu + 1))), (4, .int (iZ (rg))), (3, .ref (h0 + 41)), (1, .ref (h0 + 5)), (0, .ref (h0 + 48))]) hx hb dX2_goThroughAll_159 hl (k := 1) rfl (iZ_add _ _) (by decide) rfl (fun ls hl => ?_)
          refine lv_goto (tgt := 47) hx hb dX2_goThroughAll_162 (by decide) ?_
          exact ih (tu + 1) (rg) μg H locs ls (by show_term (have zq125 : True := trivial; omega)) (by exact fr_trans Q1 (fr_trans (fr_mono k2_ (fun x y h => by show_term (have zq126 : True := trivial; omega))) (fr_mono h1_ (fun x y h => by show_term (have zq127 : True := trivial; omega))))) (by exact O5) (by show_term (have zq128 : True := trivial; omega)) hP hS (lv_sub hl [0, 1, 2, 3, 4] rfl)
set_option maxHeartbeats 4000000 in
set_option maxRecDepth 100000 in
theorem s_OgoThroughAll (l : Launch) (dC : Nat → ClassId) (dI : Nat → Nat → Nat) (cI cZ cII cIII : ClassId) (h0 sz : Nat) (μ : va_M) (pn : Int) (ho : ordOK μ) (hlv : lvG μ) (hpn : 0 ≤ pn ∧ pn ≤ 8) : Met l yX2_goThroughAll (Cond.code yX2_goThroughAll cX2_goThroughAll 8 none :: wsG) ({ frames := 7, cells := 0, slots := 0, locals := 163 } : Room) (va_Pc [.ref (h0 + 48), .ref (h0 + 5), .int (iZ (pn)), .ref (h0 + 41)] (fun U => U.heap.size = sz ∧ va_P (dC, dI) vwCl (fw (sE cI cZ cII cIII h0) h0 233 μ) U.heap ∧ va_K (dC, dI) vwCl (sT cI cZ cII cIII) U ∧ xM U)) (va_Qv (fun (u : va_M) => ordOK u ∧ fr (fun x _ => (41 ≤ x ∧ x ≤ 44) ∨ (48 ≤ x ∧ x < 110)) μ u) (fun u t => va_P (dC, dI) vwCl (fw (sE cI cZ cII cIII h0) h0 233 u) t.heap ∧ va_K (dC, dI) vwCl (sT cI cZ cII cIII) t) (fA h0 233 sz)) 0 0 (fA h0 233 sz) := by
  refine Met.ofW (cc := cX2_goThroughAll) (maxL := 8) (ret := none) (by decide) rfl ?_
  intro p e s m args below meth c s₁ B hml hv
  obtain ⟨rfl, hsz, hP, hK, hM⟩ := hv
  have hx := B.exec
  have hb := B.bytes
  have hr := B.returns
  have hts : ∀ w ∈ wsG, w.before _ s = true := hG_of (atoms_spec (ws := (Cond.code yX2_goThroughAll cX2_goThroughAll 8 none :: wsG)) B.pre)
  have hown : s.vm.findClass RX2 = some m.cls := findClass_of_methodNamed B.named
  have hlocks := B.notSynchronized
  subst hsz
  have hS : va_S (fA h0 233 s.heap.size) s.heap s.heap [] := va_S.rf
  have hl := lv_entry ([.ref (h0 + 48), .ref (h0 + 5), .int (iZ (pn)), .ref (h0 + 41)]) (n := 8) (Nat.le_of_ble_eq_true rfl)
  rw [lg_entry_eq]
  generalize (lg_sl ([.ref (h0 + 48), .ref (h0 + 5), .int (iZ (pn)), .ref (h0 + 41)]) ++ List.replicate (8 - (lg_sl ([.ref (h0 + 48), .ref (h0 + 5), .int (iZ (pn)), .ref (h0 + 41)])).length) Slot.unset).toArray = ls at hl ⊢
  have hl : lv_has ls 8 [(0, .ref (h0 + 48)), (1, .ref (h0 + 5)), (2, .int (iZ (pn))), (3, .ref (h0 + 41))] := hl
  refine lv_aload_n hx hb dX2_goThroughAll_0 rfl (lv_at hl 0 rfl) ?_
  refine lv_iconst (v := iZ 0) hx hb dX2_goThroughAll_1 rfl ?_
  refine fz_put (D := (dC, dI)) (ci := 2) (ty := .int) (z := 0) (C := RX2) (T := TX2) (N := 9) hx hb hts inG2 tyX2 tyX2_ok nmX2 hown hK hP fA_in hS (k := 48) (by decide) (F := (sF48 h0)) sE_48 rfl 6 (by decide) (hts _ k234) (fun _ h9 => h9) rfl (by decide +kernel) rfl rfl (fun _ => Nat.le_of_ble_eq_true rfl) (fun _ _ => rfl) dX2_goThroughAll_2 (fun H locs hP hS => ?_)
  obtain ⟨μ4, eμ4⟩ : ∃ x : va_M, x = uz μ 48 6 (0) := ⟨_, rfl⟩
  rw [← eμ4] at hP
  refine lv_aload_n hx hb dX2_goThroughAll_5 rfl (lv_at hl 0 rfl) ?_
  refine lv_iload_n hx hb dX2_goThroughAll_6 rfl (lv_at hl 2 rfl) ?_
  refine lv_iconst (v := iZ 4) hx hb dX2_goThroughAll_7 rfl ?_
  refine va_mmin hx hb (hml.trans hl.1.symm) hown (hts _ k1049) (hts _ k501) (hts _ k4) (hts _ k502) (Nat.le_of_ble_eq_true rfl) (Nat.le_of_ble_eq_true rfl) (Nat.le_of_ble_eq_true rfl) (Nat.le_of_ble_eq_true rfl) dX2_goThroughAll_8 ?_
  refine lv_topi (fun x9 ex9 => ?_)
  obtain rfl : x9 = iZ (min pn 4) := ex9.trans (iZ_mn (by constructor <;> show_term (have zq129 : True := trivial; omega)) (by decide))
  refine fz_put (D := (dC, dI)) (ci := 2) (ty := .int) (z := (min pn 4)) (C := RX2) (T := TX2) (N := 9) hx hb hts inG2 tyX2 tyX2_ok nmX2 hown hK hP fA_in hS (k := 48) (by decide) (F := (sF48 h0)) sE_48 rfl 7 (by decide) (hts _ k235) (fun _ h9 => h9) rfl (by decide +kernel) rfl rfl (fun _ => Nat.le_of_ble_eq_true rfl) (fun _ _ => rfl) dX2_goThroughAll_11 (fun H locs hP hS => ?_)
  obtain ⟨μ5, eμ5⟩ : ∃ x : va_M, x = uz μ4 48 7 (min pn 4) := ⟨_, rfl⟩
  rw [← eμ5] at hP
  refine lv_iconst (v := iZ 0) hx hb dX2_goThroughAll_14 rfl ?_
  refine lv_istore (lv' := [(4, .int (iZ (0))), (0, .ref (h0 + 48)), (1, .ref (h0 + 5)), (2, .int (iZ (pn))), (3, .ref (h0 + 41))]) hx hb dX2_goThroughAll_15 hl (by decide) rfl (fun ls hl => ?_)
  refine LX2_goThroughAll_17 hx hb hml hown hts hK hM (Nat.le_of_ble_eq_true rfl) (Nat.le_of_ble_eq_true rfl) (Nat.le_of_ble_eq_true rfl) (Nat.le_of_ble_eq_true rfl) (μ)  ?_ _ (0) μ5 H locs ls (by decide) (by rw [eμ5, eμ4]; exact fr_uz (fr_uz fr_rfl (by show_term (have zq130 : True := trivial; omega))) (by show_term (have zq131 : True := trivial; omega))) (by rw [eμ5, eμ4]; exact ord_uz (ord_uz ho (by show_term (have zq132 : True := trivial; omega)) (by show_term (have zq133 : True := trivial; omega)) (by show_term (have zq134 : True := trivial; omega)) (by show_term (have zq135 : True := trivial; omega)) (by show_term (have zq136 : True := trivial; omega)) (by show_term (have zq137 : True := trivial; omega))) (by show_term (have zq138 : True := trivial; omega)) (by show_term (have zq139 : True := trivial; omega)) (by show_term (have zq140 : True := trivial; omega)) (by show_term (have zq141 : True := trivial; omega)) (by show_term (have zq142 : True := trivial; omega)) (by show_term (have zq143 : True := trivial; omega))) (Nat.lt_succ_self _) hP hS (lv_sub hl [0, 4, 2, 1] rfl)
  · intro i_6 μ6_ H locs ls q1_6 q2_6 hP hS hl
    have hl : lv_has ls 8 [(3, .ref (h0 + 41)), (1, .ref (h0 + 5)), (0, .ref (h0 + 48))] := hl
    refine lv_iconst (v := iZ 0) hx hb dX2_goThroughAll_41 rfl ?_
    refine lv_istore (lv' := [(4, .int (iZ (0))), (3, .ref (h0 + 41)), (1, .ref (h0 + 5)), (0, .ref (h0 + 48))]) hx hb dX2_goThroughAll_42 hl (by decide) rfl (fun ls hl => ?_)
    refine lv_iconst (v := iZ 0) hx hb dX2_goThroughAll_44 rfl ?_
    refine lv_istore (lv' := [(5, .int (iZ (0))), (4, .int (iZ (0))), (3, .ref (h0 + 41)), (1, .ref (h0 + 5)), (0, .ref (h0 + 48))]) hx hb dX2_goThroughAll_45 hl (by decide) rfl (fun ls hl => ?_)
    refine LX2_goThroughAll_47 hx hb hml hown hts hK hM (Nat.le_of_ble_eq_true rfl) (Nat.le_of_ble_eq_true rfl) (Nat.le_of_ble_eq_true rfl) (Nat.le_of_ble_eq_true rfl) (μ) (by exact hlv) ?_ _ (0) (0) μ6_ H locs ls (by decide) (by exact q1_6) (by exact q2_6) (Nat.lt_succ_self _) hP hS (lv_sub hl [0, 1, 2, 3, 4] rfl)
    · intro tu_7 ch_7 μ7_ H locs ls q1_7 q2_7 hP hS hl
      have hl : lv_has ls 8 [(0, .ref (h0 + 48))] := hl
      refine lv_aload_n hx hb dX2_goThroughAll_165 rfl (lv_at hl 0 rfl) ?_
      refine va_callv (va_runV (As := []) (rest := []) ⟨hx, hb, hml, hown, hts⟩ (s_OfindAnswers l dC dI cI cZ cII cIII h0 H.size μ7_  (by exact q2_7)) (cwV 0 hts (gV_G k1069 k1071 ks_yX2_findAnswers k9 k1072) rfl rfl rfl (by decide +kernel) ⟨Nat.le_of_ble_eq_true rfl, Nat.le_of_ble_eq_true rfl⟩) ⟨fun a U g mk q => by obtain ⟨q0, q1, qP, qK, qM⟩ := q; exact ⟨q0, q1, qP, va_K.moved (u := U) (U := U.calling g mk a) (Vm.Alike.refl U.vm) qK, qM⟩, va_recv hK hP (ci := 2) (q0 := 48) rfl ((fw_get (by decide)).trans (by rw [sE_48])), fun U hU hW => ⟨rfl, by rw [hU], by rw [hU]; exact hP, va_K.moved hW.alike hK, xM_warm hW hM⟩⟩ rfl rfl hl.1 rfl (lv_room (Nat.le_of_ble_eq_true rfl)) dX2_goThroughAll_166 ⟨Nat.le_of_ble_eq_true rfl, Nat.le_of_ble_eq_true rfl⟩) hS (fun q _ h => fA_le hS.1 q h) (fA_le hS.1) (fun u9 t9 H1 locs ht9 hvm9 hw9 hB9 hz9 hk9 hS => ?_)
      obtain ⟨hP, -⟩ := hB9
      rw [ht9] at hP
      generalize H1 = H at hP hS ⊢
      obtain ⟨μz, eμz⟩ : ∃ x : va_M, x = u9 := ⟨_, rfl⟩
      rw [← eμz] at hP hw9
      have hμz := hw9; clear hw9
      obtain ⟨z1_, z2_⟩ := hμz
      exact W.vret hx hb hr (fun t9 ht9 hW9 => ⟨⟨μz, rfl, (by
                    try dsimp only
                    exact ⟨z1_, fr_trans q1_7 (fr_mono z2_ (fun x y h => by show_term (have zq144 : True := trivial; omega)))⟩), by rw [ht9]; exact hP, va_K.moved hW9.alike hK⟩, hS.F ht9⟩) hS.2.2 dX2_goThroughAll_169

set_option maxRecDepth 100000 in
theorem k1397 : (Cond.methodLink "PageSkeletonModel" (211 : Nat) ({ cls := "PageSkeletonModel", name := "areAlike", desc := "(IIII)Z" } : MethodName)) ∈ wsG := wsG_a6 197 rfl rfl
set_option maxRecDepth 100000 in
theorem k1399 : (Cond.instanceMethod ({ cls := "PageSkeletonModel", name := "areAlike", desc := "(IIII)Z" } : MethodName)) ∈ wsG := wsG_a6 199 rfl rfl
set_option maxRecDepth 100000 in
theorem k1400 : (Cond.code ({ cls := "PageSkeletonModel", name := "areAlike", desc := "(IIII)Z" } : MethodName) prog_12_method_24_code (8 : Nat) (Option.some FieldType.boolean)) ∈ wsG := wsG_a6 200 rfl rfl
set_option maxRecDepth 100000 in
theorem k1401 : (Cond.methodLink "PageSkeletonModel" (204 : Nat) ({ cls := "PageSkeletonModel", name := "isText", desc := "(I)Z" } : MethodName)) ∈ wsG := wsG_a6 201 rfl rfl
set_option maxRecDepth 100000 in
theorem k1402 : (Cond.static ({ cls := "PageSkeletonModel", name := "isText", desc := "(I)Z" } : MethodName)) ∈ wsG := wsG_a6 202 rfl rfl
set_option maxRecDepth 100000 in
theorem k1403 : (Cond.code ({ cls := "PageSkeletonModel", name := "isText", desc := "(I)Z" } : MethodName) prog_12_method_23_code (1 : Nat) (Option.some FieldType.boolean)) ∈ wsG := wsG_a6 203 rfl rfl
set_option maxRecDepth 100000 in
theorem k1404 : (Cond.methodLink "PageSkeletonModel" (207 : Nat) ({ cls := "PageSkeletonModel", name := "itemsIn", desc := "(II)I" } : MethodName)) ∈ wsG := wsG_a6 204 rfl rfl
set_option maxRecDepth 100000 in
theorem k1406 : (Cond.instanceMethod ({ cls := "PageSkeletonModel", name := "itemsIn", desc := "(II)I" } : MethodName)) ∈ wsG := wsG_a6 206 rfl rfl
set_option maxRecDepth 100000 in
theorem k1407 : (Cond.code ({ cls := "PageSkeletonModel", name := "itemsIn", desc := "(II)I" } : MethodName) prog_12_method_22_code (5 : Nat) (Option.some FieldType.int)) ∈ wsG := wsG_a6 207 rfl rfl
set_option maxRecDepth 100000 in
theorem ks_yX10_areAlike : Cond.selects RX10 yX10_areAlike yX10_areAlike ∈ wsG := wsG_p 61 rfl rfl
set_option maxRecDepth 100000 in
theorem ks_yX10_itemsIn : Cond.selects RX10 yX10_itemsIn yX10_itemsIn ∈ wsG := wsG_p 62 rfl rfl
theorem dX10_areAlike_0 : decode cX10_areAlike 0 = .ok (.aload_n 0, 1) := by decide +kernel
theorem dX10_areAlike_1 : decode cX10_areAlike 1 = .ok (.getfield 45, 3) := by decide +kernel
theorem dX10_areAlike_4 : decode cX10_areAlike 4 = .ok (.iload_n 1, 1) := by decide +kernel
theorem dX10_areAlike_5 : decode cX10_areAlike 5 = .ok (.aaload, 1) := by decide +kernel
theorem dX10_areAlike_6 : decode cX10_areAlike 6 = .ok (.iload_n 2, 1) := by decide +kernel
theorem dX10_areAlike_7 : decode cX10_areAlike 7 = .ok (.iaload, 1) := by decide +kernel
theorem dX10_areAlike_8 : decode cX10_areAlike 8 = .ok (.istore 5, 2) := by decide +kernel
theorem dX10_areAlike_10 : decode cX10_areAlike 10 = .ok (.iload 5, 2) := by decide +kernel
theorem dX10_areAlike_12 : decode cX10_areAlike 12 = .ok (.invokestatic 204, 3) := by decide +kernel
theorem dX10_areAlike_15 : decode cX10_areAlike 15 = .ok (.ifCond .eq 16, 3) := by decide +kernel
theorem dX10_areAlike_18 : decode cX10_areAlike 18 = .ok (.aload_n 0, 1) := by decide +kernel
theorem dX10_areAlike_19 : decode cX10_areAlike 19 = .ok (.getfield 45, 3) := by decide +kernel
theorem dX10_areAlike_22 : decode cX10_areAlike 22 = .ok (.iload_n 3, 1) := by decide +kernel
theorem dX10_areAlike_23 : decode cX10_areAlike 23 = .ok (.aaload, 1) := by decide +kernel
theorem dX10_areAlike_24 : decode cX10_areAlike 24 = .ok (.iload 4, 2) := by decide +kernel
theorem dX10_areAlike_26 : decode cX10_areAlike 26 = .ok (.iaload, 1) := by decide +kernel
theorem dX10_areAlike_27 : decode cX10_areAlike 27 = .ok (.invokestatic 204, 3) := by decide +kernel
theorem dX10_areAlike_30 : decode cX10_areAlike 30 = .ok (.ireturn, 1) := by decide +kernel
theorem dX10_areAlike_31 : decode cX10_areAlike 31 = .ok (.iload 5, 2) := by decide +kernel
theorem dX10_areAlike_33 : decode cX10_areAlike 33 = .ok (.aload_n 0, 1) := by decide +kernel
theorem dX10_areAlike_34 : decode cX10_areAlike 34 = .ok (.getfield 45, 3) := by decide +kernel
theorem dX10_areAlike_37 : decode cX10_areAlike 37 = .ok (.iload_n 3, 1) := by decide +kernel
theorem dX10_areAlike_38 : decode cX10_areAlike 38 = .ok (.aaload, 1) := by decide +kernel
theorem dX10_areAlike_39 : decode cX10_areAlike 39 = .ok (.iload 4, 2) := by decide +kernel
theorem dX10_areAlike_41 : decode cX10_areAlike 41 = .ok (.iaload, 1) := by decide +kernel
theorem dX10_areAlike_42 : decode cX10_areAlike 42 = .ok (.if_icmp .eq 5, 3) := by decide +kernel
theorem dX10_areAlike_45 : decode cX10_areAlike 45 = .ok (.iconst 0, 1) := by decide +kernel
theorem dX10_areAlike_46 : decode cX10_areAlike 46 = .ok (.ireturn, 1) := by decide +kernel
theorem dX10_areAlike_47 : decode cX10_areAlike 47 = .ok (.iload 5, 2) := by decide +kernel
theorem dX10_areAlike_49 : decode cX10_areAlike 49 = .ok (.ifCond .ne 29, 3) := by decide +kernel
theorem dX10_areAlike_52 : decode cX10_areAlike 52 = .ok (.aload_n 0, 1) := by decide +kernel
theorem dX10_areAlike_53 : decode cX10_areAlike 53 = .ok (.getfield 48, 3) := by decide +kernel
theorem dX10_areAlike_56 : decode cX10_areAlike 56 = .ok (.iload_n 1, 1) := by decide +kernel
theorem dX10_areAlike_57 : decode cX10_areAlike 57 = .ok (.aaload, 1) := by decide +kernel
theorem dX10_areAlike_58 : decode cX10_areAlike 58 = .ok (.iload_n 2, 1) := by decide +kernel
theorem dX10_areAlike_59 : decode cX10_areAlike 59 = .ok (.iaload, 1) := by decide +kernel
theorem dX10_areAlike_60 : decode cX10_areAlike 60 = .ok (.aload_n 0, 1) := by decide +kernel
theorem dX10_areAlike_61 : decode cX10_areAlike 61 = .ok (.getfield 48, 3) := by decide +kernel
theorem dX10_areAlike_64 : decode cX10_areAlike 64 = .ok (.iload_n 3, 1) := by decide +kernel
theorem dX10_areAlike_65 : decode cX10_areAlike 65 = .ok (.aaload, 1) := by decide +kernel
theorem dX10_areAlike_66 : decode cX10_areAlike 66 = .ok (.iload 4, 2) := by decide +kernel
theorem dX10_areAlike_68 : decode cX10_areAlike 68 = .ok (.iaload, 1) := by decide +kernel
theorem dX10_areAlike_69 : decode cX10_areAlike 69 = .ok (.if_icmp .ne 7, 3) := by decide +kernel
theorem dX10_areAlike_72 : decode cX10_areAlike 72 = .ok (.iconst 1, 1) := by decide +kernel
theorem dX10_areAlike_73 : decode cX10_areAlike 73 = .ok (.goto 4, 3) := by decide +kernel
theorem dX10_areAlike_76 : decode cX10_areAlike 76 = .ok (.iconst 0, 1) := by decide +kernel
theorem dX10_areAlike_77 : decode cX10_areAlike 77 = .ok (.ireturn, 1) := by decide +kernel
theorem dX10_areAlike_78 : decode cX10_areAlike 78 = .ok (.aload_n 0, 1) := by decide +kernel
theorem dX10_areAlike_79 : decode cX10_areAlike 79 = .ok (.iload_n 1, 1) := by decide +kernel
theorem dX10_areAlike_80 : decode cX10_areAlike 80 = .ok (.iload_n 2, 1) := by decide +kernel
theorem dX10_areAlike_81 : decode cX10_areAlike 81 = .ok (.invokevirtual 207, 3) := by decide +kernel
theorem dX10_areAlike_84 : decode cX10_areAlike 84 = .ok (.aload_n 0, 1) := by decide +kernel
theorem dX10_areAlike_85 : decode cX10_areAlike 85 = .ok (.iload_n 3, 1) := by decide +kernel
theorem dX10_areAlike_86 : decode cX10_areAlike 86 = .ok (.iload 4, 2) := by decide +kernel
theorem dX10_areAlike_88 : decode cX10_areAlike 88 = .ok (.invokevirtual 207, 3) := by decide +kernel
theorem dX10_areAlike_91 : decode cX10_areAlike 91 = .ok (.if_icmp .eq 5, 3) := by decide +kernel
theorem dX10_areAlike_94 : decode cX10_areAlike 94 = .ok (.iconst 0, 1) := by decide +kernel
theorem dX10_areAlike_95 : decode cX10_areAlike 95 = .ok (.ireturn, 1) := by decide +kernel
theorem dX10_areAlike_96 : decode cX10_areAlike 96 = .ok (.iload 4, 2) := by decide +kernel
theorem dX10_areAlike_98 : decode cX10_areAlike 98 = .ok (.iconst 1, 1) := by decide +kernel
theorem dX10_areAlike_99 : decode cX10_areAlike 99 = .ok (.iadd, 1) := by decide +kernel
theorem dX10_areAlike_100 : decode cX10_areAlike 100 = .ok (.istore 6, 2) := by decide +kernel
theorem dX10_areAlike_102 : decode cX10_areAlike 102 = .ok (.iload_n 2, 1) := by decide +kernel
theorem dX10_areAlike_103 : decode cX10_areAlike 103 = .ok (.iconst 1, 1) := by decide +kernel
theorem dX10_areAlike_104 : decode cX10_areAlike 104 = .ok (.iadd, 1) := by decide +kernel
theorem dX10_areAlike_105 : decode cX10_areAlike 105 = .ok (.istore 7, 2) := by decide +kernel
theorem dX10_areAlike_107 : decode cX10_areAlike 107 = .ok (.iload 7, 2) := by decide +kernel
theorem dX10_areAlike_109 : decode cX10_areAlike 109 = .ok (.iload_n 2, 1) := by decide +kernel
theorem dX10_areAlike_110 : decode cX10_areAlike 110 = .ok (.aload_n 0, 1) := by decide +kernel
theorem dX10_areAlike_111 : decode cX10_areAlike 111 = .ok (.getfield 51, 3) := by decide +kernel
theorem dX10_areAlike_114 : decode cX10_areAlike 114 = .ok (.iload_n 1, 1) := by decide +kernel
theorem dX10_areAlike_115 : decode cX10_areAlike 115 = .ok (.aaload, 1) := by decide +kernel
theorem dX10_areAlike_116 : decode cX10_areAlike 116 = .ok (.iload_n 2, 1) := by decide +kernel
theorem dX10_areAlike_117 : decode cX10_areAlike 117 = .ok (.iaload, 1) := by decide +kernel
theorem dX10_areAlike_118 : decode cX10_areAlike 118 = .ok (.iadd, 1) := by decide +kernel
theorem dX10_areAlike_119 : decode cX10_areAlike 119 = .ok (.if_icmp .ge 49, 3) := by decide +kernel
theorem dX10_areAlike_122 : decode cX10_areAlike 122 = .ok (.aload_n 0, 1) := by decide +kernel
theorem dX10_areAlike_123 : decode cX10_areAlike 123 = .ok (.iload_n 1, 1) := by decide +kernel
theorem dX10_areAlike_124 : decode cX10_areAlike 124 = .ok (.iload 7, 2) := by decide +kernel
theorem dX10_areAlike_126 : decode cX10_areAlike 126 = .ok (.iload_n 3, 1) := by decide +kernel
theorem dX10_areAlike_127 : decode cX10_areAlike 127 = .ok (.iload 6, 2) := by decide +kernel
theorem dX10_areAlike_129 : decode cX10_areAlike 129 = .ok (.invokevirtual 211, 3) := by decide +kernel
theorem dX10_areAlike_132 : decode cX10_areAlike 132 = .ok (.ifCond .ne 5, 3) := by decide +kernel
theorem dX10_areAlike_135 : decode cX10_areAlike 135 = .ok (.iconst 0, 1) := by decide +kernel
theorem dX10_areAlike_136 : decode cX10_areAlike 136 = .ok (.ireturn, 1) := by decide +kernel
theorem dX10_areAlike_137 : decode cX10_areAlike 137 = .ok (.iload 6, 2) := by decide +kernel
theorem dX10_areAlike_139 : decode cX10_areAlike 139 = .ok (.aload_n 0, 1) := by decide +kernel
theorem dX10_areAlike_140 : decode cX10_areAlike 140 = .ok (.getfield 51, 3) := by decide +kernel
theorem dX10_areAlike_143 : decode cX10_areAlike 143 = .ok (.iload_n 3, 1) := by decide +kernel
theorem dX10_areAlike_144 : decode cX10_areAlike 144 = .ok (.aaload, 1) := by decide +kernel
theorem dX10_areAlike_145 : decode cX10_areAlike 145 = .ok (.iload 6, 2) := by decide +kernel
theorem dX10_areAlike_147 : decode cX10_areAlike 147 = .ok (.iaload, 1) := by decide +kernel
theorem dX10_areAlike_148 : decode cX10_areAlike 148 = .ok (.iadd, 1) := by decide +kernel
theorem dX10_areAlike_149 : decode cX10_areAlike 149 = .ok (.istore 6, 2) := by decide +kernel
theorem dX10_areAlike_151 : decode cX10_areAlike 151 = .ok (.iload 7, 2) := by decide +kernel
theorem dX10_areAlike_153 : decode cX10_areAlike 153 = .ok (.aload_n 0, 1) := by decide +kernel
theorem dX10_areAlike_154 : decode cX10_areAlike 154 = .ok (.getfield 51, 3) := by decide +kernel
theorem dX10_areAlike_157 : decode cX10_areAlike 157 = .ok (.iload_n 1, 1) := by decide +kernel
theorem dX10_areAlike_158 : decode cX10_areAlike 158 = .ok (.aaload, 1) := by decide +kernel
theorem dX10_areAlike_159 : decode cX10_areAlike 159 = .ok (.iload 7, 2) := by decide +kernel
theorem dX10_areAlike_161 : decode cX10_areAlike 161 = .ok (.iaload, 1) := by decide +kernel
theorem dX10_areAlike_162 : decode cX10_areAlike 162 = .ok (.iadd, 1) := by decide +kernel
theorem dX10_areAlike_163 : decode cX10_areAlike 163 = .ok (.istore 7, 2) := by decide +kernel
theorem dX10_areAlike_165 : decode cX10_areAlike 165 = .ok (.goto (-58), 3) := by decide +kernel
theorem dX10_areAlike_168 : decode cX10_areAlike 168 = .ok (.iconst 1, 1) := by decide +kernel
theorem dX10_areAlike_169 : decode cX10_areAlike 169 = .ok (.ireturn, 1) := by decide +kernel
/-- how deep a row's items go, one at least -/
def rH : Rw → Nat
  | .leaf => 0
  | .inner _ _ _ l r => max (1 + rH l) (rH r)
def isTx (k : Nat) : Prop := k = 1 ∨ k = 2
def ralk : Rw → Rw → Prop
  | .leaf, .leaf => True
  | .inner _ k v l r, .inner _ k2 v2 l2 r2 => ((isTx k ∧ isTx k2) ∨ (¬ isTx k ∧ k = k2 ∧ (k = 0 → v = v2) ∧ ralk l l2)) ∧ ralk r r2
  | .leaf, .inner _ _ _ _ _ => False
  | .inner _ _ _ _ _, .leaf => False
def ialk (k : Nat) (v : Int) (l : Rw) (k2 : Nat) (v2 : Int) (l2 : Rw) : Prop := (isTx k ∧ isTx k2) ∨ (¬ isTx k ∧ k = k2 ∧ (k = 0 → v = v2) ∧ ralk l l2)
theorem rH_in {z k : Nat} {v : Int} {l r : Rw} : rH (Std.DTreeMap.Internal.Impl.inner z k v l r : Rw) = max (1 + rH l) (rH r) := rfl
theorem rH_0 {w : Rw} (h : w ≠ .leaf) : 0 < rH w := by
  cases w with
  | leaf => exact absurd rfl h
  | inner z k v l r => rw [rH_in]; omega
theorem ralk_rI : ∀ (w b : Rw), ralk w b → rI w = rI b
  | .leaf, .leaf, _ => rfl
  | .inner _ _ _ _ r, .inner _ _ _ _ r2, h => by rw [rI_in, rI_in, ralk_rI r r2 h.2]
  | .leaf, .inner _ _ _ _ _, h => h.elim
  | .inner _ _ _ _ _, .leaf, h => h.elim
/-- the item at a place -/
def IA (μ : va_M) (t p k : Nat) (v : Int) (l : Rw) : Prop := μ (507 + t) p = k ∧ μ (578 + t) p = v ∧ μ (649 + t) p = 1 + rN l ∧ RA μ t l (p + 1)
def iWF (k : Nat) (v : Int) (l : Rw) : Prop := k ≤ 4 ∧ (k < 3 → l = .leaf) ∧ (3 ≤ k → l ≠ .leaf) ∧ -1 ≤ v ∧ v < 200 ∧ (k < 2 → 0 ≤ v) ∧ rWF l
set_option maxHeartbeats 4000000 in
set_option maxRecDepth 100000 in
theorem LX10_areAlike_107 {p : Program} {l : Launch} {e : Env} {R : Room} {s : State} {m : MethodId} {args : Array Value} {below : List Frame} {meth : Method} {c : Code} {cells slots : Nat} {Q : State → Prop} {dC : Nat → ClassId} {dI : Nat → Nat → Nat} {h0 : Nat} {cI cZ cII cIII : ClassId} {d9 : Nat} (hx : p.tables.exec = Jvm.exec) (hb : c.code = cX10_areAlike) (hml : c.maxLocals = 8) (hown : s.vm.findClass RX10 = some m.cls) (hts : ∀ w ∈ wsG, w.before args s = true) (hK : va_K (dC, dI) vwCl (mT cI cZ cII cIII) s) (hRf : d9 + 3 + 1 ≤ R.frames) (hRl : 8 + (8 + 11) + (30 * d9 + 100) ≤ R.locals) (hRc : cells ≤ R.cells) (hRs : slots ≤ R.slots) (hrec : ∀ (sz : Nat) (μ : va_M) (t : Int) (i : Int) (u1 : Int) (j : Int) (k : Nat) (v : Int) (w1 : Rw) (k2 : Nat) (v2 : Int) (b1 : Rw), (0 ≤ t ∧ t < 70) → (0 ≤ u1 ∧ u1 < 70) → (0 ≤ i ∧ i + 1 + rN w1 ≤ 900) → (0 ≤ j ∧ j + 1 + rN b1 ≤ 900) → (IA μ t.toNat i.toNat k v w1) → (IA μ u1.toNat j.toNat k2 v2 b1) → (iWF k v w1) → (iWF k2 v2 b1) → (rH w1 ≤ d9) → Met l yX10_areAlike (Cond.code yX10_areAlike cX10_areAlike 8 (some .boolean) :: wsG) ({ frames := d9 + 3, cells := 0, slots := 0, locals := 30 * d9 + 100 } : Room) (va_Pc [.ref h0, .int (iZ (t)), .int (iZ (i)), .int (iZ (u1)), .int (iZ (j))] (fun U => U.heap.size = sz ∧ va_P (dC, dI) vwCl (fw (mE cI cZ cII cIII h0) h0 6325 μ) U.heap ∧ va_K (dC, dI) vwCl (mT cI cZ cII cIII) U)) (va_Qi (fun (r9 : Int32) (u : va_M × Int) => r9 = iZ u.2 ∧ (fun (u : va_M) (r : Int) => u = μ ∧ ((r = 1 ∧ ialk k v w1 k2 v2 b1) ∨ (r = 0 ∧ ¬ ialk k v w1 k2 v2 b1))) u.1 u.2) (fun u t => va_P (dC, dI) vwCl (fw (mE cI cZ cII cIII h0) h0 6325 u.1) t.heap ∧ va_K (dC, dI) vwCl (mT cI cZ cII cIII) t) (fA h0 6325 sz)) 0 0 (fA h0 6325 sz)) (μ0 : va_M) (t : Int) (i : Int) (u1 : Int) (j : Int) (w1 : Rw) (b1 : Rw) (ht : 0 ≤ t ∧ t < 70) (hu : 0 ≤ u1 ∧ u1 < 70) (hi : 0 ≤ i ∧ i + 1 + rN w1 ≤ 900) (hj : 0 ≤ j ∧ j + 1 + rN b1 ≤ 900) (hs : μ0 (649 + t.toNat) i.toNat = 1 + rN w1) (hexit135 : ∀ (a : Int) (b : Int) (w : Rw) (w2 : Rw) (μ : va_M) (H : Heap) (locs : List Loc) (ls : Array Slot), (μ = μ0) → (¬ ralk w1 b1) → va_P (dC, dI) vwCl (fw (mE cI cZ cII cIII h0) h0 6325 μ) H → va_S (fA h0 6325 s.heap.size) s.heap H locs → lv_has ls 8 [] → W p l e R s m args below meth c H locs cells slots Q (F0 m 135 ls [])) (hexit168 : ∀ (a : Int) (b : Int) (w : Rw) (w2 : Rw) (μ : va_M) (H : Heap) (locs : List Loc) (ls : Array Slot), (μ = μ0) → (ralk w1 b1) → va_P (dC, dI) vwCl (fw (mE cI cZ cII cIII h0) h0 6325 μ) H → va_S (fA h0 6325 s.heap.size) s.heap H locs → lv_has ls 8 [] → W p l e R s m args below meth c H locs cells slots Q (F0 m 168 ls [])) :
    ∀ (n9 : Nat) (a : Int) (b : Int) (w : Rw) (w2 : Rw) (μ : va_M) (H : Heap) (locs : List Loc) (ls : Array Slot), (μ = μ0) → (RA μ0 t.toNat w a.toNat) → (RA μ0 u1.toNat w2 b.toNat) → (i < a ∧ a + rN w = i + 1 + rN w1) → (j < b ∧ b + rN w2 = j + 1 + rN b1) → (rI w = rI w2) → (ralk w1 b1 ↔ ralk w w2) → (rH w ≤ d9 + 1) → (rWF w) → (rWF w2) → rN w < n9 → va_P (dC, dI) vwCl (fw (mE cI cZ cII cIII h0) h0 6325 μ) H → va_S (fA h0 6325 s.heap.size) s.heap H locs → lv_has ls 8 [(7, .int (iZ (a))), (6, .int (iZ (b))), (0, .ref h0), (1, .int (iZ (t))), (2, .int (iZ (i))), (3, .int (iZ (u1)))] → W p l e R s m args below meth c H locs cells slots Q (F0 m 107 ls []) := by
  intro n9
  induction n9 with
  | zero => intro a b w w2 μ H locs ls hm hw hw2 ha hb0 hI hal hh hf hf2 hm9 hP hS hl; exact absurd hm9 (Nat.not_lt_zero _)
  | succ n9 ih =>
    intro a b w w2 μ H locs ls hm hw hw2 ha hb0 hI hal hh hf hf2 hm9 hP hS hl
    subst hm
    refine lv_iload hx hb dX10_areAlike_107 (lv_at hl 0 rfl) ?_
    refine lv_iload_n hx hb dX10_areAlike_109 rfl (lv_at hl 4 rfl) ?_
    refine lv_aload_n hx hb dX10_areAlike_110 rfl (lv_at hl 2 rfl) ?_
    refine fz_get (D := (dC, dI)) (ci := 10) (v := .ref (h0 + 648)) (C := RX10) (T := TX10) (N := 53) hx hb hts inG10 hown hK hP (k := 0) (by decide) (F := mF h0) mE_obj rfl 20 (by decide) (hts _ k1186) (fun _ h9 => h9) rfl dX10_areAlike_111 ?_
    refine lv_iload_n hx hb dX10_areAlike_114 rfl (lv_at hl 3 rfl) ?_
    refine fz_ald (k := 648) (n := 70) (k2 := (649 + (t).toNat)) hx hb hK hP 2 rfl (by decide) mE_span rfl ⟨by omega, by omega⟩ (by decide) (if_pos (by omega)) dX10_areAlike_115 ?_
    refine lv_iload_n hx hb dX10_areAlike_116 rfl (lv_at hl 4 rfl) ?_
    refine fz_ld (k := (649 + (t).toNat)) (n := 900) hx hb hK hP 0 (by omega) (mE_spanR (by omega)) rfl ⟨by omega, by omega⟩ (by decide) dX10_areAlike_117 ?_
    rw [show μ (649 + (t).toNat) (i).toNat = 1 + (rN w1 : Int) from (by exact hs)]
    refine lv_iadd hx hb dX10_areAlike_118 ?_
    refine lv_topi (fun x9 ex9 => ?_)
    obtain rfl : x9 = iZ (i + (1 + (rN w1 : Int))) := ex9.trans (iZ_add _ _)
    refine fz_icmp_ge (tgt := 168) (by constructor <;> omega) (by constructor <;> omega) hx hb dX10_areAlike_119 (by decide) (fun c119_ => ?_) (fun c119_ => ?_)
    · exact hexit168 (a) (b) (w) (w2) μ H locs ls (by rfl) (by
                    rw [hal]
                    obtain rfl := rw_0 (w := w) (by omega)
                    have h5 : rI (Std.DTreeMap.Internal.Impl.leaf : Rw) = 0 := rfl
                    cases w2 with
                    | leaf => trivial
                    | inner z9 k9 v9 l9 w9 => rw [rI_in, h5] at hI; omega) hP hS (lv_sub hl [] rfl)
    · obtain ⟨z9, k9, v9, l9, w9, rfl⟩ := rw_ne (w := w) (by omega)
      have hn9 := rN_in (z := z9) (k := k9) (v := v9) (l := l9) (r := w9)
      have hi9 := rI_in (z := z9) (k := k9) (v := v9) (l := l9) (r := w9)
      have hh9 := rH_in (z := z9) (k := k9) (v := v9) (l := l9) (r := w9)
      obtain ⟨y9, m9, x9_, b9, u9_, rfl⟩ := rw_ne (w := w2) (by have := rI_le w2; omega)
      have gn9 := rN_in (z := y9) (k := m9) (v := x9_) (l := b9) (r := u9_)
      have gi9 := rI_in (z := y9) (k := m9) (v := x9_) (l := b9) (r := u9_)
      obtain ⟨g1, g2, g3, g4, g5⟩ := hw
      obtain ⟨p1, p2, p3, p4, p5⟩ := hw2
      obtain ⟨f1, f2, f3, f4, f5, f6, f7, f8⟩ := hf
      obtain ⟨e1, e2, e3, e4, e5, e6, e7, e8⟩ := hf2
      refine lv_aload_n hx hb dX10_areAlike_122 rfl (lv_at hl 2 rfl) ?_
      refine lv_iload_n hx hb dX10_areAlike_123 rfl (lv_at hl 3 rfl) ?_
      refine lv_iload hx hb dX10_areAlike_124 (lv_at hl 0 rfl) ?_
      refine lv_iload_n hx hb dX10_areAlike_126 rfl (lv_at hl 5 rfl) ?_
      refine lv_iload hx hb dX10_areAlike_127 (lv_at hl 1 rfl) ?_
      refine va_calli (va_runV (As := [.int (iZ (t)), .int (iZ (a)), .int (iZ (u1)), .int (iZ (b))]) (rest := []) ⟨hx, hb, hml, hown, hts⟩ (hrec H.size μ (t) (a) (u1) (b) (k9) (v9) (l9) (m9) (x9_) (b9) (by first | assumption | omega | exact ⟨by omega, by omega⟩) (by first | assumption | omega | exact ⟨by omega, by omega⟩) (by first | assumption | omega | exact ⟨by omega, by omega⟩) (by first | assumption | omega | exact ⟨by omega, by omega⟩) (by exact ⟨g1, g2, g3, g4⟩) (by exact ⟨p1, p2, p3, p4⟩) (by exact ⟨f1, f2, f3, f4, f5, f6, f7⟩) (by exact ⟨e1, e2, e3, e4, e5, e6, e7⟩) (by first | assumption | omega | exact ⟨by omega, by omega⟩)) (cwV 4 hts (gV_G k1397 k1399 ks_yX10_areAlike k13 k1400) rfl rfl rfl (by decide +kernel) ⟨by show d9 + 3 + 1 ≤ _; omega, by show 8 + (8 + 11) + (30 * d9 + 100) ≤ _; omega⟩) ⟨fun a U g mk q => by obtain ⟨q0, q1, qP, qK⟩ := q; exact ⟨q0, q1, qP, va_K.moved (u := U) (U := U.calling g mk a) (Vm.Alike.refl U.vm) qK⟩, va_recv hK hP (ci := 10) (q0 := 0) rfl ((fw_get (by decide)).trans (by rw [mE_obj]; rfl)), fun U hU hW => ⟨rfl, by rw [hU], by rw [hU]; exact hP, va_K.moved hW.alike hK⟩⟩ rfl rfl hl.1 rfl (lv_room (Nat.le_of_ble_eq_true rfl)) dX10_areAlike_129 ⟨hRc, hRs⟩) hS (fun q _ h => fA_le hS.1 q h) (fA_le hS.1) (fun r9 u9 t9 H1 locs ht9 hvm9 hw9 hB9 hz9 hk9 hS => ?_)
      obtain ⟨μ1, r2⟩ := u9
      obtain ⟨hP, -⟩ := hB9
      rw [ht9] at hP
      generalize H1 = H at hP hS ⊢
      obtain ⟨e9, hw9⟩ := hw9
      have e9 : r9 = iZ r2 := e9
      subst e9
      simp only at hP hw9
      have hμ1 := hw9; clear hw9
      rw [hμ1.1] at hP; have hμ1 := hμ1.2
      refine fz_if_ne (tgt := 137) (by constructor <;> omega) hx hb dX10_areAlike_132 (by decide) (fun c132_ => ?_) (fun c132_ => ?_)
      · refine lv_iload hx hb dX10_areAlike_137 (lv_at hl 1 rfl) ?_
        refine lv_aload_n hx hb dX10_areAlike_139 rfl (lv_at hl 2 rfl) ?_
        refine fz_get (D := (dC, dI)) (ci := 10) (v := .ref (h0 + 648)) (C := RX10) (T := TX10) (N := 53) hx hb hts inG10 hown hK hP (k := 0) (by decide) (F := mF h0) mE_obj rfl 20 (by decide) (hts _ k1186) (fun _ h9 => h9) rfl dX10_areAlike_140 ?_
        refine lv_iload_n hx hb dX10_areAlike_143 rfl (lv_at hl 5 rfl) ?_
        refine fz_ald (k := 648) (n := 70) (k2 := (649 + (u1).toNat)) hx hb hK hP 2 rfl (by decide) mE_span rfl ⟨by omega, by omega⟩ (by decide) (if_pos (by omega)) dX10_areAlike_144 ?_
        refine lv_iload hx hb dX10_areAlike_145 (lv_at hl 1 rfl) ?_
        refine fz_ld (k := (649 + (u1).toNat)) (n := 900) hx hb hK hP 0 (by omega) (mE_spanR (by omega)) rfl ⟨by omega, by omega⟩ (by decide) dX10_areAlike_147 ?_
        rw [show μ (649 + (u1).toNat) (b).toNat = 1 + (rN b9 : Int) from (by exact p3)]
        refine lv_iadd hx hb dX10_areAlike_148 ?_
        refine lv_topi (fun x9 ex9 => ?_)
        obtain rfl : x9 = iZ (b + (1 + (rN b9 : Int))) := ex9.trans (iZ_add _ _)
        refine lv_istore (lv' := [(6, .int (iZ (b + (1 + (rN b9 : Int))))), (7, .int (iZ (a))), (0, .ref h0), (1, .int (iZ (t))), (2, .int (iZ (i))), (3, .int (iZ (u1)))]) hx hb dX10_areAlike_149 hl (by decide) rfl (fun ls hl => ?_)
        refine lv_iload hx hb dX10_areAlike_151 (lv_at hl 1 rfl) ?_
        refine lv_aload_n hx hb dX10_areAlike_153 rfl (lv_at hl 2 rfl) ?_
        refine fz_get (D := (dC, dI)) (ci := 10) (v := .ref (h0 + 648)) (C := RX10) (T := TX10) (N := 53) hx hb hts inG10 hown hK hP (k := 0) (by decide) (F := mF h0) mE_obj rfl 20 (by decide) (hts _ k1186) (fun _ h9 => h9) rfl dX10_areAlike_154 ?_
        refine lv_iload_n hx hb dX10_areAlike_157 rfl (lv_at hl 3 rfl) ?_
        refine fz_ald (k := 648) (n := 70) (k2 := (649 + (t).toNat)) hx hb hK hP 2 rfl (by decide) mE_span rfl ⟨by omega, by omega⟩ (by decide) (if_pos (by omega)) dX10_areAlike_158 ?_
        refine lv_iload hx hb dX10_areAlike_159 (lv_at hl 1 rfl) ?_
        refine fz_ld (k := (649 + (t).toNat)) (n := 900) hx hb hK hP 0 (by omega) (mE_spanR (by omega)) rfl ⟨by omega, by omega⟩ (by decide) dX10_areAlike_161 ?_
        rw [show μ (649 + (t).toNat) (a).toNat = 1 + (rN l9 : Int) from (by exact g3)]
        refine lv_iadd hx hb dX10_areAlike_162 ?_
        refine lv_topi (fun x9 ex9 => ?_)
        obtain rfl : x9 = iZ (a + (1 + (rN l9 : Int))) := ex9.trans (iZ_add _ _)
        refine lv_istore (lv' := [(7, .int (iZ (a + (1 + (rN l9 : Int))))), (6, .int (iZ (b + (1 + (rN b9 : Int))))), (0, .ref h0), (1, .int (iZ (t))), (2, .int (iZ (i))), (3, .int (iZ (u1)))]) hx hb dX10_areAlike_163 hl (by decide) rfl (fun ls hl => ?_)
        refine lv_goto (tgt := 107) hx hb dX10_areAlike_165 (by decide) ?_
        exact ih (a + (1 + (rN l9 : Int))) (b + (1 + (rN b9 : Int))) (w9) (u9_) μ H locs ls (by rfl) (by rw [show (a + (1 + (rN l9 : Int))).toNat = a.toNat + 1 + rN l9 by omega]; exact g5) (by rw [show (b + (1 + (rN b9 : Int))).toNat = b.toNat + 1 + rN b9 by omega]; exact p5) (by omega) (by omega) (by omega) (by
                        rw [hal]
                        have hx9_ : ialk k9 v9 l9 m9 x9_ b9 := by
                          rcases hμ1 with ⟨_, h⟩ | ⟨h, _⟩
                          · exact h
                          · omega
                        exact ⟨fun h => h.2, fun h => ⟨hx9_, h⟩⟩) (by omega) (by exact f8) (by exact e8) (by omega) hP hS (lv_sub hl [0, 1, 2, 3, 4, 5] rfl)
      · exact hexit135 (a) (b) (Std.DTreeMap.Internal.Impl.leaf) (Std.DTreeMap.Internal.Impl.leaf) μ H locs ls (by rfl) (by
                        rw [hal]
                        intro h
                        rcases hμ1 with ⟨h9, _⟩ | ⟨_, h9⟩
                        · omega
                        · exact h9 h.1) hP hS (lv_sub hl [] rfl)
set_option maxHeartbeats 4000000 in
set_option maxRecDepth 100000 in
theorem m_areAlike (l : Launch) (dC : Nat → ClassId) (dI : Nat → Nat → Nat) (cI cZ cII cIII : ClassId) (h0 : Nat) : ∀ (d : Nat), ∀ (sz : Nat) (μ : va_M) (t : Int) (i : Int) (u1 : Int) (j : Int) (k : Nat) (v : Int) (w1 : Rw) (k2 : Nat) (v2 : Int) (b1 : Rw), (0 ≤ t ∧ t < 70) → (0 ≤ u1 ∧ u1 < 70) → (0 ≤ i ∧ i + 1 + rN w1 ≤ 900) → (0 ≤ j ∧ j + 1 + rN b1 ≤ 900) → (IA μ t.toNat i.toNat k v w1) → (IA μ u1.toNat j.toNat k2 v2 b1) → (iWF k v w1) → (iWF k2 v2 b1) → (rH w1 ≤ d) → Met l yX10_areAlike (Cond.code yX10_areAlike cX10_areAlike 8 (some .boolean) :: wsG) ({ frames := d + 3, cells := 0, slots := 0, locals := 30 * d + 100 } : Room) (va_Pc [.ref h0, .int (iZ (t)), .int (iZ (i)), .int (iZ (u1)), .int (iZ (j))] (fun U => U.heap.size = sz ∧ va_P (dC, dI) vwCl (fw (mE cI cZ cII cIII h0) h0 6325 μ) U.heap ∧ va_K (dC, dI) vwCl (mT cI cZ cII cIII) U)) (va_Qi (fun (r9 : Int32) (u : va_M × Int) => r9 = iZ u.2 ∧ (fun (u : va_M) (r : Int) => u = μ ∧ ((r = 1 ∧ ialk k v w1 k2 v2 b1) ∨ (r = 0 ∧ ¬ ialk k v w1 k2 v2 b1))) u.1 u.2) (fun u t => va_P (dC, dI) vwCl (fw (mE cI cZ cII cIII h0) h0 6325 u.1) t.heap ∧ va_K (dC, dI) vwCl (mT cI cZ cII cIII) t) (fA h0 6325 sz)) 0 0 (fA h0 6325 sz) := by
  intro d
  induction d using Nat.strongRecOn with
  | _ d ih =>
  intro sz μ t i u1 j k v w1 k2 v2 b1 ht hu hi hj h1 h2 hw1 hw2 hd
  refine Met.ofW (cc := cX10_areAlike) (maxL := 8) (ret := (some .boolean)) (by decide) rfl ?_
  intro p e s m args below meth c s₁ B hml hv
  obtain ⟨rfl, hsz, hP, hK⟩ := hv
  have hx := B.exec
  have hb := B.bytes
  have hr := B.returns
  have hts : ∀ w ∈ wsG, w.before _ s = true := hG_of (atoms_spec (ws := (Cond.code yX10_areAlike cX10_areAlike 8 (some .boolean) :: wsG)) B.pre)
  have hown : s.vm.findClass RX10 = some m.cls := findClass_of_methodNamed B.named
  have hlocks := B.notSynchronized
  subst hsz
  have hS : va_S (fA h0 6325 s.heap.size) s.heap s.heap [] := va_S.rf
  have hl := lv_entry ([.ref h0, .int (iZ (t)), .int (iZ (i)), .int (iZ (u1)), .int (iZ (j))]) (n := 8) (Nat.le_of_ble_eq_true rfl)
  rw [lg_entry_eq]
  generalize (lg_sl ([.ref h0, .int (iZ (t)), .int (iZ (i)), .int (iZ (u1)), .int (iZ (j))]) ++ List.replicate (8 - (lg_sl ([.ref h0, .int (iZ (t)), .int (iZ (i)), .int (iZ (u1)), .int (iZ (j))])).length) Slot.unset).toArray = ls at hl ⊢
  have hl : lv_has ls 8 [(0, .ref h0), (1, .int (iZ (t))), (2, .int (iZ (i))), (3, .int (iZ (u1))), (4, .int (iZ (j)))] := hl
  have hq1 := rI_le w1
  have hq2 := rI_le b1
  have hwA := hw1.1
  have hwB := hw2.1
  have hvA := hw1.2.2.2.1
  have hvB := hw1.2.2.2.2.1
  have hvC := hw2.2.2.2.1
  have hvD := hw2.2.2.2.2.1
  refine lv_aload_n hx hb dX10_areAlike_0 rfl (lv_at hl 0 rfl) ?_
  refine fz_get (D := (dC, dI)) (ci := 10) (v := .ref (h0 + 506)) (C := RX10) (T := TX10) (N := 53) hx hb hts inG10 hown hK hP (k := 0) (by decide) (F := mF h0) mE_obj rfl 18 (by decide) (hts _ k1184) (fun _ h9 => h9) rfl dX10_areAlike_1 ?_
  refine lv_iload_n hx hb dX10_areAlike_4 rfl (lv_at hl 1 rfl) ?_
  refine fz_ald (k := 506) (n := 70) (k2 := (507 + (t).toNat)) hx hb hK hP 2 rfl (by decide) mE_sort rfl ⟨by omega, by omega⟩ (by decide) (if_pos (by omega)) dX10_areAlike_5 ?_
  refine lv_iload_n hx hb dX10_areAlike_6 rfl (lv_at hl 2 rfl) ?_
  refine fz_ld (k := (507 + (t).toNat)) (n := 900) hx hb hK hP 0 (by omega) (mE_sortR (by omega)) rfl ⟨by omega, by omega⟩ (by decide) dX10_areAlike_7 ?_
  rw [show μ (507 + (t).toNat) (i).toNat = (k : Int) from (by exact h1.1)]
  refine lv_istore (lv' := [(5, .int (iZ ((k : Int)))), (0, .ref h0), (1, .int (iZ (t))), (2, .int (iZ (i))), (3, .int (iZ (u1))), (4, .int (iZ (j)))]) hx hb dX10_areAlike_8 hl (by decide) rfl (fun ls hl => ?_)
  refine lv_iload hx hb dX10_areAlike_10 (lv_at hl 0 rfl) ?_
  refine va_calli (va_runS (As := [.int (iZ ((k : Int)))]) (rest := []) ⟨hx, hb, hml, hown, hts⟩ (m_isText l dC dI cI cZ cII cIII h0 s.heap.size μ ((k : Int)) (by first | assumption | omega | exact ⟨by omega, by omega⟩)) (cwS 1 hts (gS_G k1401 k1402 k13 k1403) rfl rfl rfl (by decide +kernel) ⟨by show 1 + 1 ≤ d + 3; omega, by show 8 + (1 + 11) + (14) ≤ 30 * d + 100; omega⟩) ⟨fun a U g mk q => by obtain ⟨q0, q1, qP, qK⟩ := q; exact ⟨q0, q1, qP, va_K.moved (u := U) (U := U.calling g mk a) (Vm.Alike.refl U.vm) qK⟩, fun U hU hW => ⟨rfl, by rw [hU], by rw [hU]; exact hP, va_K.moved hW.alike hK⟩⟩ rfl rfl hl.1 rfl (lv_room (Nat.le_of_ble_eq_true rfl)) dX10_areAlike_12 ⟨Nat.le_of_ble_eq_true rfl, Nat.le_of_ble_eq_true rfl⟩) hS (fun q _ h => fA_le hS.1 q h) (fA_le hS.1) (fun r9 u9 t9 H1 locs ht9 hvm9 hw9 hB9 hz9 hk9 hS => ?_)
  obtain ⟨μ3, r4⟩ := u9
  obtain ⟨hP, -⟩ := hB9
  rw [ht9] at hP
  generalize H1 = H at hP hS ⊢
  obtain ⟨e9, hw9⟩ := hw9
  have e9 : r9 = iZ r4 := e9
  subst e9
  simp only at hP hw9
  have hμ3 := hw9; clear hw9
  rw [hμ3.1] at hP; have hμ3 := hμ3.2
  refine fz_if_eq (tgt := 31) (by constructor <;> omega) hx hb dX10_areAlike_15 (by decide) (fun c15_ => ?_) (fun c15_ => ?_)
  · refine lv_iload hx hb dX10_areAlike_31 (lv_at hl 0 rfl) ?_
    refine lv_aload_n hx hb dX10_areAlike_33 rfl (lv_at hl 1 rfl) ?_
    refine fz_get (D := (dC, dI)) (ci := 10) (v := .ref (h0 + 506)) (C := RX10) (T := TX10) (N := 53) hx hb hts inG10 hown hK hP (k := 0) (by decide) (F := mF h0) mE_obj rfl 18 (by decide) (hts _ k1184) (fun _ h9 => h9) rfl dX10_areAlike_34 ?_
    refine lv_iload_n hx hb dX10_areAlike_37 rfl (lv_at hl 4 rfl) ?_
    refine fz_ald (k := 506) (n := 70) (k2 := (507 + (u1).toNat)) hx hb hK hP 2 rfl (by decide) mE_sort rfl ⟨by omega, by omega⟩ (by decide) (if_pos (by omega)) dX10_areAlike_38 ?_
    refine lv_iload hx hb dX10_areAlike_39 (lv_at hl 5 rfl) ?_
    refine fz_ld (k := (507 + (u1).toNat)) (n := 900) hx hb hK hP 0 (by omega) (mE_sortR (by omega)) rfl ⟨by omega, by omega⟩ (by decide) dX10_areAlike_41 ?_
    rw [show μ (507 + (u1).toNat) (j).toNat = (k2 : Int) from (by exact h2.1)]
    refine fz_icmp_eq (tgt := 47) (by constructor <;> omega) (by constructor <;> omega) hx hb dX10_areAlike_42 (by decide) (fun c42_ => ?_) (fun c42_ => ?_)
    · refine lv_iload hx hb dX10_areAlike_47 (lv_at hl 0 rfl) ?_
      refine fz_if_ne (tgt := 78) (by constructor <;> omega) hx hb dX10_areAlike_49 (by decide) (fun c49_ => ?_) (fun c49_ => ?_)
      · have hkT : ¬ isTx k := by unfold isTx; split at hμ3 <;> omega
        have hk3 : 3 ≤ k := by unfold isTx at hkT; omega
        have hdp := rH_0 (hw1.2.2.1 hk3)
        refine lv_aload_n hx hb dX10_areAlike_78 rfl (lv_at hl 1 rfl) ?_
        refine lv_iload_n hx hb dX10_areAlike_79 rfl (lv_at hl 2 rfl) ?_
        refine lv_iload_n hx hb dX10_areAlike_80 rfl (lv_at hl 3 rfl) ?_
        refine va_calli (va_runV (As := [.int (iZ (t)), .int (iZ (i))]) (rest := []) ⟨hx, hb, hml, hown, hts⟩ (m_itemsIn l dC dI cI cZ cII cIII h0 H.size μ (t) (i) (w1) (by first | assumption | omega | exact ⟨by omega, by omega⟩) (by first | assumption | omega | exact ⟨by omega, by omega⟩) (by exact h1.2.2.1) (by exact h1.2.2.2)) (cwV 2 hts (gV_G k1404 k1406 ks_yX10_itemsIn k13 k1407) rfl rfl rfl (by decide +kernel) ⟨by show 1 + 1 ≤ d + 3; omega, by show 8 + (5 + 11) + (14) ≤ 30 * d + 100; omega⟩) ⟨fun a U g mk q => by obtain ⟨q0, q1, qP, qK⟩ := q; exact ⟨q0, q1, qP, va_K.moved (u := U) (U := U.calling g mk a) (Vm.Alike.refl U.vm) qK⟩, va_recv hK hP (ci := 10) (q0 := 0) rfl ((fw_get (by decide)).trans (by rw [mE_obj]; rfl)), fun U hU hW => ⟨rfl, by rw [hU], by rw [hU]; exact hP, va_K.moved hW.alike hK⟩⟩ rfl rfl hl.1 rfl (lv_room (Nat.le_of_ble_eq_true rfl)) dX10_areAlike_81 ⟨Nat.le_of_ble_eq_true rfl, Nat.le_of_ble_eq_true rfl⟩) hS (fun q _ h => fA_le hS.1 q h) (fA_le hS.1) (fun r9 u9 t9 H1 locs ht9 hvm9 hw9 hB9 hz9 hk9 hS => ?_)
        obtain ⟨μ5, r6⟩ := u9
        obtain ⟨hP, -⟩ := hB9
        rw [ht9] at hP
        generalize H1 = H at hP hS ⊢
        obtain ⟨e9, hw9⟩ := hw9
        have e9 : r9 = iZ r6 := e9
        subst e9
        simp only at hP hw9
        have hμ5 := hw9; clear hw9
        rw [hμ5.1] at hP; have hμ5 := hμ5.2
        refine lv_aload_n hx hb dX10_areAlike_84 rfl (lv_at hl 1 rfl) ?_
        refine lv_iload_n hx hb dX10_areAlike_85 rfl (lv_at hl 4 rfl) ?_
        refine lv_iload hx hb dX10_areAlike_86 (lv_at hl 5 rfl) ?_
        refine va_calli (va_runV (As := [.int (iZ (u1)), .int (iZ (j))]) (rest := [.int (iZ (r6))]) ⟨hx, hb, hml, hown, hts⟩ (m_itemsIn l dC dI cI cZ cII cIII h0 H.size μ (u1) (j) (b1) (by first | assumption | omega | exact ⟨by omega, by omega⟩) (by first | assumption | omega | exact ⟨by omega, by omega⟩) (by exact h2.2.2.1) (by exact h2.2.2.2)) (cwV 2 hts (gV_G k1404 k1406 ks_yX10_itemsIn k13 k1407) rfl rfl rfl (by decide +kernel) ⟨by show 1 + 1 ≤ d + 3; omega, by show 8 + (5 + 11) + (14) ≤ 30 * d + 100; omega⟩) ⟨fun a U g mk q => by obtain ⟨q0, q1, qP, qK⟩ := q; exact ⟨q0, q1, qP, va_K.moved (u := U) (U := U.calling g mk a) (Vm.Alike.refl U.vm) qK⟩, va_recv hK hP (ci := 10) (q0 := 0) rfl ((fw_get (by decide)).trans (by rw [mE_obj]; rfl)), fun U hU hW => ⟨rfl, by rw [hU], by rw [hU]; exact hP, va_K.moved hW.alike hK⟩⟩ rfl rfl hl.1 rfl (lv_room (Nat.le_of_ble_eq_true rfl)) dX10_areAlike_88 ⟨Nat.le_of_ble_eq_true rfl, Nat.le_of_ble_eq_true rfl⟩) hS (fun q _ h => fA_le hS.1 q h) (fA_le hS.1) (fun r9 u9 t9 H1 locs ht9 hvm9 hw9 hB9 hz9 hk9 hS => ?_)
        obtain ⟨μ7, r8⟩ := u9
        obtain ⟨hP, -⟩ := hB9
        rw [ht9] at hP
        generalize H1 = H at hP hS ⊢
        obtain ⟨e9, hw9⟩ := hw9
        have e9 : r9 = iZ r8 := e9
        subst e9
        simp only at hP hw9
        have hμ7 := hw9; clear hw9
        rw [hμ7.1] at hP; have hμ7 := hμ7.2
        refine fz_icmp_eq (tgt := 96) (by constructor <;> omega) (by constructor <;> omega) hx hb dX10_areAlike_91 (by decide) (fun c91_ => ?_) (fun c91_ => ?_)
        · refine lv_iload hx hb dX10_areAlike_96 (lv_at hl 5 rfl) ?_
          refine lv_iconst (v := iZ 1) hx hb dX10_areAlike_98 rfl ?_
          refine lv_iadd hx hb dX10_areAlike_99 ?_
          refine lv_topi (fun x9 ex9 => ?_)
          obtain rfl : x9 = iZ (j + 1) := ex9.trans (iZ_add _ _)
          refine lv_istore (lv' := [(6, .int (iZ (j + 1))), (5, .int (iZ ((k : Int)))), (0, .ref h0), (1, .int (iZ (t))), (2, .int (iZ (i))), (3, .int (iZ (u1))), (4, .int (iZ (j)))]) hx hb dX10_areAlike_100 hl (by decide) rfl (fun ls hl => ?_)
          refine lv_iload_n hx hb dX10_areAlike_102 rfl (lv_at hl 4 rfl) ?_
          refine lv_iconst (v := iZ 1) hx hb dX10_areAlike_103 rfl ?_
          refine lv_iadd hx hb dX10_areAlike_104 ?_
          refine lv_topi (fun x9 ex9 => ?_)
          obtain rfl : x9 = iZ (i + 1) := ex9.trans (iZ_add _ _)
          refine lv_istore (lv' := [(7, .int (iZ (i + 1))), (6, .int (iZ (j + 1))), (5, .int (iZ ((k : Int)))), (0, .ref h0), (1, .int (iZ (t))), (2, .int (iZ (i))), (3, .int (iZ (u1))), (4, .int (iZ (j)))]) hx hb dX10_areAlike_105 hl (by decide) rfl (fun ls hl => ?_)
          refine LX10_areAlike_107 (d9 := d - 1) hx hb hml hown hts hK (by show (d - 1) + 3 + 1 ≤ d + 3; omega) (by show 8 + (8 + 11) + (30 * (d - 1) + 100) ≤ 30 * d + 100; omega) (Nat.le_of_ble_eq_true rfl) (Nat.le_of_ble_eq_true rfl) (ih (d - 1) (by omega)) (μ) (t) (i) (u1) (j) (w1) (b1) (by assumption) (by assumption) (by assumption) (by assumption) (by exact h1.2.2.1) ?_ ?_ _ (i + 1) (j + 1) (w1) (b1) μ H locs ls (by rfl) (by rw [show (i + 1).toNat = i.toNat + 1 by omega]; exact h1.2.2.2) (by rw [show (j + 1).toNat = j.toNat + 1 by omega]; exact h2.2.2.2) (by omega) (by omega) (by omega) (by exact Iff.rfl) (by omega) (by exact hw1.2.2.2.2.2.2) (by exact hw2.2.2.2.2.2.2) (Nat.lt_succ_self _) hP hS (lv_sub hl [0, 1, 3, 4, 5, 6] rfl)
          · intro a_9 b_9 w_9 w2_9 μ9_ H locs ls q3_9 q4_9 hP hS hl
            have hl : lv_has ls 8 [] := hl
            refine lv_iconst (v := iZ 0) hx hb dX10_areAlike_135 rfl ?_
            exact W.zret (v := iZ (0)) hx hb hr (by exact fz_narZ (by omega)) (fun t9 ht9 hW9 => ⟨⟨iZ (0), (μ9_, 0), rfl, ⟨rfl, (by
                                dsimp only
                                refine ⟨q3_9, Or.inr ⟨rfl, ?_⟩⟩
                                rintro (h | h)
                                · exact hkT h.1
                                · exact q4_9 h.2.2.2)⟩, by rw [ht9]; exact hP, va_K.moved hW9.alike hK⟩, hS.F ht9⟩) hS.2.2 dX10_areAlike_136
          · intro a_10 b_10 w_10 w2_10 μ10_ H locs ls q1_10 q2_10 hP hS hl
            have hl : lv_has ls 8 [] := hl
            refine lv_iconst (v := iZ 1) hx hb dX10_areAlike_168 rfl ?_
            exact W.zret (v := iZ (1)) hx hb hr (by exact fz_narZ (by omega)) (fun t9 ht9 hW9 => ⟨⟨iZ (1), (μ10_, 1), rfl, ⟨rfl, (by
                                dsimp only
                                exact ⟨q1_10, Or.inl ⟨rfl, Or.inr ⟨hkT, by omega, fun h => absurd h (by omega), q2_10⟩⟩⟩)⟩, by rw [ht9]; exact hP, va_K.moved hW9.alike hK⟩, hS.F ht9⟩) hS.2.2 dX10_areAlike_169
        · refine lv_iconst (v := iZ 0) hx hb dX10_areAlike_94 rfl ?_
          exact W.zret (v := iZ (0)) hx hb hr (by exact fz_narZ (by omega)) (fun t9 ht9 hW9 => ⟨⟨iZ (0), (μ, 0), rfl, ⟨rfl, (by
                            dsimp only
                            refine ⟨rfl, Or.inr ⟨rfl, ?_⟩⟩
                            rintro (h | h)
                            · exact hkT h.1
                            · have h8 := ralk_rI _ _ h.2.2.2; omega)⟩, by rw [ht9]; exact hP, va_K.moved hW9.alike hK⟩, hS.F ht9⟩) hS.2.2 dX10_areAlike_95
      · refine lv_aload_n hx hb dX10_areAlike_52 rfl (lv_at hl 1 rfl) ?_
        refine fz_get (D := (dC, dI)) (ci := 10) (v := .ref (h0 + 577)) (C := RX10) (T := TX10) (N := 53) hx hb hts inG10 hown hK hP (k := 0) (by decide) (F := mF h0) mE_obj rfl 19 (by decide) (hts _ k1185) (fun _ h9 => h9) rfl dX10_areAlike_53 ?_
        refine lv_iload_n hx hb dX10_areAlike_56 rfl (lv_at hl 2 rfl) ?_
        refine fz_ald (k := 577) (n := 70) (k2 := (578 + (t).toNat)) hx hb hK hP 2 rfl (by decide) mE_token rfl ⟨by omega, by omega⟩ (by decide) (if_pos (by omega)) dX10_areAlike_57 ?_
        refine lv_iload_n hx hb dX10_areAlike_58 rfl (lv_at hl 3 rfl) ?_
        refine fz_ld (k := (578 + (t).toNat)) (n := 900) hx hb hK hP 0 (by omega) (mE_tokenR (by omega)) rfl ⟨by omega, by omega⟩ (by decide) dX10_areAlike_59 ?_
        rw [show μ (578 + (t).toNat) (i).toNat = v from (by exact h1.2.1)]
        refine lv_aload_n hx hb dX10_areAlike_60 rfl (lv_at hl 1 rfl) ?_
        refine fz_get (D := (dC, dI)) (ci := 10) (v := .ref (h0 + 577)) (C := RX10) (T := TX10) (N := 53) hx hb hts inG10 hown hK hP (k := 0) (by decide) (F := mF h0) mE_obj rfl 19 (by decide) (hts _ k1185) (fun _ h9 => h9) rfl dX10_areAlike_61 ?_
        refine lv_iload_n hx hb dX10_areAlike_64 rfl (lv_at hl 4 rfl) ?_
        refine fz_ald (k := 577) (n := 70) (k2 := (578 + (u1).toNat)) hx hb hK hP 2 rfl (by decide) mE_token rfl ⟨by omega, by omega⟩ (by decide) (if_pos (by omega)) dX10_areAlike_65 ?_
        refine lv_iload hx hb dX10_areAlike_66 (lv_at hl 5 rfl) ?_
        refine fz_ld (k := (578 + (u1).toNat)) (n := 900) hx hb hK hP 0 (by omega) (mE_tokenR (by omega)) rfl ⟨by omega, by omega⟩ (by decide) dX10_areAlike_68 ?_
        rw [show μ (578 + (u1).toNat) (j).toNat = v2 from (by exact h2.2.1)]
        refine fz_icmp_ne (tgt := 76) (by constructor <;> omega) (by constructor <;> omega) hx hb dX10_areAlike_69 (by decide) (fun c69_ => ?_) (fun c69_ => ?_)
        · refine lv_iconst (v := iZ 0) hx hb dX10_areAlike_76 rfl ?_
          exact W.zret (v := iZ (0)) hx hb hr (by exact fz_narZ (by omega)) (fun t9 ht9 hW9 => ⟨⟨iZ (0), (μ, 0), rfl, ⟨rfl, (by
                            dsimp only
                            refine ⟨rfl, ?_⟩
                            have hk : ¬ isTx k := by unfold isTx; split at hμ3 <;> omega
                            have hk0 : k = 0 := by omega
                            have hl1 := hw1.2.1 (by omega)
                            have hl2 := hw2.2.1 (by omega)
                            subst hl1 hl2
                            first
                            | exact Or.inl ⟨rfl, Or.inr ⟨hk, by omega, fun _ => by omega, trivial⟩⟩
                            | (refine Or.inr ⟨rfl, fun h => ?_⟩; rcases h with h | h; exact hk h.1; have h8 := h.2.2.1 hk0; omega))⟩, by rw [ht9]; exact hP, va_K.moved hW9.alike hK⟩, hS.F ht9⟩) hS.2.2 dX10_areAlike_77
        · refine lv_iconst (v := iZ 1) hx hb dX10_areAlike_72 rfl ?_
          refine lv_goto (tgt := 77) hx hb dX10_areAlike_73 (by decide) ?_
          exact W.zret (v := iZ (1)) hx hb hr (by exact fz_narZ (by omega)) (fun t9 ht9 hW9 => ⟨⟨iZ (1), (μ, 1), rfl, ⟨rfl, (by
                            dsimp only
                            refine ⟨rfl, ?_⟩
                            have hk : ¬ isTx k := by unfold isTx; split at hμ3 <;> omega
                            have hk0 : k = 0 := by omega
                            have hl1 := hw1.2.1 (by omega)
                            have hl2 := hw2.2.1 (by omega)
                            subst hl1 hl2
                            first
                            | exact Or.inl ⟨rfl, Or.inr ⟨hk, by omega, fun _ => by omega, trivial⟩⟩
                            | (refine Or.inr ⟨rfl, fun h => ?_⟩; rcases h with h | h; exact hk h.1; have h8 := h.2.2.1 hk0; omega))⟩, by rw [ht9]; exact hP, va_K.moved hW9.alike hK⟩, hS.F ht9⟩) hS.2.2 dX10_areAlike_77
    · refine lv_iconst (v := iZ 0) hx hb dX10_areAlike_45 rfl ?_
      exact W.zret (v := iZ (0)) hx hb hr (by exact fz_narZ (by omega)) (fun t9 ht9 hW9 => ⟨⟨iZ (0), (μ, 0), rfl, ⟨rfl, (by
                    dsimp only
                    refine ⟨rfl, Or.inr ⟨rfl, ?_⟩⟩
                    have hk : ¬ isTx k := by unfold isTx; split at hμ3 <;> omega
                    rintro (h | h)
                    · exact hk h.1
                    · have := h.2.1; omega)⟩, by rw [ht9]; exact hP, va_K.moved hW9.alike hK⟩, hS.F ht9⟩) hS.2.2 dX10_areAlike_46
  · refine lv_aload_n hx hb dX10_areAlike_18 rfl (lv_at hl 1 rfl) ?_
    refine fz_get (D := (dC, dI)) (ci := 10) (v := .ref (h0 + 506)) (C := RX10) (T := TX10) (N := 53) hx hb hts inG10 hown hK hP (k := 0) (by decide) (F := mF h0) mE_obj rfl 18 (by decide) (hts _ k1184) (fun _ h9 => h9) rfl dX10_areAlike_19 ?_
    refine lv_iload_n hx hb dX10_areAlike_22 rfl (lv_at hl 4 rfl) ?_
    refine fz_ald (k := 506) (n := 70) (k2 := (507 + (u1).toNat)) hx hb hK hP 2 rfl (by decide) mE_sort rfl ⟨by omega, by omega⟩ (by decide) (if_pos (by omega)) dX10_areAlike_23 ?_
    refine lv_iload hx hb dX10_areAlike_24 (lv_at hl 5 rfl) ?_
    refine fz_ld (k := (507 + (u1).toNat)) (n := 900) hx hb hK hP 0 (by omega) (mE_sortR (by omega)) rfl ⟨by omega, by omega⟩ (by decide) dX10_areAlike_26 ?_
    rw [show μ (507 + (u1).toNat) (j).toNat = (k2 : Int) from (by exact h2.1)]
    refine va_calli (va_runS (As := [.int (iZ ((k2 : Int)))]) (rest := []) ⟨hx, hb, hml, hown, hts⟩ (m_isText l dC dI cI cZ cII cIII h0 H.size μ ((k2 : Int)) (by first | assumption | omega | exact ⟨by omega, by omega⟩)) (cwS 1 hts (gS_G k1401 k1402 k13 k1403) rfl rfl rfl (by decide +kernel) ⟨by show 1 + 1 ≤ d + 3; omega, by show 8 + (1 + 11) + (14) ≤ 30 * d + 100; omega⟩) ⟨fun a U g mk q => by obtain ⟨q0, q1, qP, qK⟩ := q; exact ⟨q0, q1, qP, va_K.moved (u := U) (U := U.calling g mk a) (Vm.Alike.refl U.vm) qK⟩, fun U hU hW => ⟨rfl, by rw [hU], by rw [hU]; exact hP, va_K.moved hW.alike hK⟩⟩ rfl rfl hl.1 rfl (lv_room (Nat.le_of_ble_eq_true rfl)) dX10_areAlike_27 ⟨Nat.le_of_ble_eq_true rfl, Nat.le_of_ble_eq_true rfl⟩) hS (fun q _ h => fA_le hS.1 q h) (fA_le hS.1) (fun r9 u9 t9 H1 locs ht9 hvm9 hw9 hB9 hz9 hk9 hS => ?_)
    obtain ⟨μ11, r12⟩ := u9
    obtain ⟨hP, -⟩ := hB9
    rw [ht9] at hP
    generalize H1 = H at hP hS ⊢
    obtain ⟨e9, hw9⟩ := hw9
    have e9 : r9 = iZ r12 := e9
    subst e9
    simp only at hP hw9
    have hμ11 := hw9; clear hw9
    rw [hμ11.1] at hP; have hμ11 := hμ11.2
    exact W.zret (v := iZ (r12)) hx hb hr (by exact fz_narZ (by split at hμ11 <;> omega)) (fun t9 ht9 hW9 => ⟨⟨iZ (r12), (μ, r12), rfl, ⟨rfl, (by
                dsimp only
                refine ⟨rfl, ?_⟩
                have hk : isTx k := by unfold isTx; split at hμ3 <;> omega
                unfold ialk isTx
                split at hμ11
                · exact Or.inl ⟨hμ11, Or.inl ⟨hk, by omega⟩⟩
                · refine Or.inr ⟨hμ11, ?_⟩
                  rintro (h | h)
                  · have := h.2; omega
                  · exact h.1 hk)⟩, by rw [ht9]; exact hP, va_K.moved hW9.alike hK⟩, hS.F ht9⟩) hS.2.2 dX10_areAlike_30

set_option maxRecDepth 100000 in
theorem k1711 : (Cond.methodLink "PageSkeletonModel" (408 : Nat) ({ cls := "PageSkeletonModel", name := "goesInOrder", desc := "(II)V" } : MethodName)) ∈ wsG := wsG_a8 31 rfl rfl
set_option maxRecDepth 100000 in
theorem k1713 : (Cond.instanceMethod ({ cls := "PageSkeletonModel", name := "goesInOrder", desc := "(II)V" } : MethodName)) ∈ wsG := wsG_a8 33 rfl rfl
set_option maxRecDepth 100000 in
theorem k1714 : (Cond.code ({ cls := "PageSkeletonModel", name := "goesInOrder", desc := "(II)V" } : MethodName) prog_12_method_101_code (4 : Nat) (Option.none : Option Jvm.ClassFile.FieldType)) ∈ wsG := wsG_a8 34 rfl rfl
set_option maxRecDepth 100000 in
theorem k1719 : (Cond.methodLink "PageSkeletonModel" (411 : Nat) ({ cls := "PageSkeletonModel", name := "areSame", desc := "(II)Z" } : MethodName)) ∈ wsG := wsG_a8 39 rfl rfl
set_option maxRecDepth 100000 in
theorem k1721 : (Cond.instanceMethod ({ cls := "PageSkeletonModel", name := "areSame", desc := "(II)Z" } : MethodName)) ∈ wsG := wsG_a8 41 rfl rfl
set_option maxRecDepth 100000 in
theorem k1722 : (Cond.code ({ cls := "PageSkeletonModel", name := "areSame", desc := "(II)Z" } : MethodName) prog_12_method_99_code (4 : Nat) (Option.some FieldType.boolean)) ∈ wsG := wsG_a8 42 rfl rfl
set_option maxRecDepth 100000 in
theorem ks_yX10_goesInOrder : Cond.selects RX10 yX10_goesInOrder yX10_goesInOrder ∈ wsG := wsG_p 110 rfl rfl
set_option maxRecDepth 100000 in
theorem ks_yX10_areSame : Cond.selects RX10 yX10_areSame yX10_areSame ∈ wsG := wsG_p 112 rfl rfl
theorem dX10_orders_0 : decode cX10_orders 0 = .ok (.aload_n 0, 1) := by decide +kernel
theorem dX10_orders_1 : decode cX10_orders 1 = .ok (.iconst 0, 1) := by decide +kernel
theorem dX10_orders_2 : decode cX10_orders 2 = .ok (.putfield 127, 3) := by decide +kernel
theorem dX10_orders_5 : decode cX10_orders 5 = .ok (.aload_n 0, 1) := by decide +kernel
theorem dX10_orders_6 : decode cX10_orders 6 = .ok (.iload_n 1, 1) := by decide +kernel
theorem dX10_orders_7 : decode cX10_orders 7 = .ok (.iconst 0, 1) := by decide +kernel
theorem dX10_orders_8 : decode cX10_orders 8 = .ok (.iconst 3, 1) := by decide +kernel
theorem dX10_orders_9 : decode cX10_orders 9 = .ok (.invokestatic 173, 3) := by decide +kernel
theorem dX10_orders_12 : decode cX10_orders 12 = .ok (.ifCond .ne 7, 3) := by decide +kernel
theorem dX10_orders_15 : decode cX10_orders 15 = .ok (.iconst 1, 1) := by decide +kernel
theorem dX10_orders_16 : decode cX10_orders 16 = .ok (.goto 4, 3) := by decide +kernel
theorem dX10_orders_19 : decode cX10_orders 19 = .ok (.iconst 0, 1) := by decide +kernel
theorem dX10_orders_20 : decode cX10_orders 20 = .ok (.iconst 1, 1) := by decide +kernel
theorem dX10_orders_21 : decode cX10_orders 21 = .ok (.iconst 1, 1) := by decide +kernel
theorem dX10_orders_22 : decode cX10_orders 22 = .ok (.invokevirtual 177, 3) := by decide +kernel
theorem dX10_orders_25 : decode cX10_orders 25 = .ok (.ifCond .ne 29, 3) := by decide +kernel
theorem dX10_orders_28 : decode cX10_orders 28 = .ok (.aload_n 0, 1) := by decide +kernel
theorem dX10_orders_29 : decode cX10_orders 29 = .ok (.aload_n 0, 1) := by decide +kernel
theorem dX10_orders_30 : decode cX10_orders 30 = .ok (.getfield 181, 3) := by decide +kernel
theorem dX10_orders_33 : decode cX10_orders 33 = .ok (.iconst 1, 1) := by decide +kernel
theorem dX10_orders_34 : decode cX10_orders 34 = .ok (.iconst 4, 1) := by decide +kernel
theorem dX10_orders_35 : decode cX10_orders 35 = .ok (.invokestatic 173, 3) := by decide +kernel
theorem dX10_orders_38 : decode cX10_orders 38 = .ok (.ifCond .ne 7, 3) := by decide +kernel
theorem dX10_orders_41 : decode cX10_orders 41 = .ok (.iconst 1, 1) := by decide +kernel
theorem dX10_orders_42 : decode cX10_orders 42 = .ok (.goto 4, 3) := by decide +kernel
theorem dX10_orders_45 : decode cX10_orders 45 = .ok (.iconst 0, 1) := by decide +kernel
theorem dX10_orders_46 : decode cX10_orders 46 = .ok (.iconst 2, 1) := by decide +kernel
theorem dX10_orders_47 : decode cX10_orders 47 = .ok (.iconst 2, 1) := by decide +kernel
theorem dX10_orders_48 : decode cX10_orders 48 = .ok (.invokevirtual 177, 3) := by decide +kernel
theorem dX10_orders_51 : decode cX10_orders 51 = .ok (.ifCond .eq 5, 3) := by decide +kernel
theorem dX10_orders_54 : decode cX10_orders 54 = .ok (.iconst 0, 1) := by decide +kernel
theorem dX10_orders_55 : decode cX10_orders 55 = .ok (.ireturn, 1) := by decide +kernel
theorem dX10_orders_56 : decode cX10_orders 56 = .ok (.aload_n 0, 1) := by decide +kernel
theorem dX10_orders_57 : decode cX10_orders 57 = .ok (.getfield 181, 3) := by decide +kernel
theorem dX10_orders_60 : decode cX10_orders 60 = .ok (.iconst 4, 1) := by decide +kernel
theorem dX10_orders_61 : decode cX10_orders 61 = .ok (.if_icmp .ne 8, 3) := by decide +kernel
theorem dX10_orders_64 : decode cX10_orders 64 = .ok (.bipush 24, 2) := by decide +kernel
theorem dX10_orders_66 : decode cX10_orders 66 = .ok (.goto 20, 3) := by decide +kernel
theorem dX10_orders_69 : decode cX10_orders 69 = .ok (.aload_n 0, 1) := by decide +kernel
theorem dX10_orders_70 : decode cX10_orders 70 = .ok (.getfield 181, 3) := by decide +kernel
theorem dX10_orders_73 : decode cX10_orders 73 = .ok (.iconst 3, 1) := by decide +kernel
theorem dX10_orders_74 : decode cX10_orders 74 = .ok (.if_icmp .ne 8, 3) := by decide +kernel
theorem dX10_orders_77 : decode cX10_orders 77 = .ok (.bipush 6, 2) := by decide +kernel
theorem dX10_orders_79 : decode cX10_orders 79 = .ok (.goto 7, 3) := by decide +kernel
theorem dX10_orders_82 : decode cX10_orders 82 = .ok (.aload_n 0, 1) := by decide +kernel
theorem dX10_orders_83 : decode cX10_orders 83 = .ok (.getfield 181, 3) := by decide +kernel
theorem dX10_orders_86 : decode cX10_orders 86 = .ok (.istore_n 2, 1) := by decide +kernel
theorem dX10_orders_87 : decode cX10_orders 87 = .ok (.iconst 0, 1) := by decide +kernel
theorem dX10_orders_88 : decode cX10_orders 88 = .ok (.istore_n 3, 1) := by decide +kernel
theorem dX10_orders_89 : decode cX10_orders 89 = .ok (.iconst 0, 1) := by decide +kernel
theorem dX10_orders_90 : decode cX10_orders 90 = .ok (.istore 4, 2) := by decide +kernel
theorem dX10_orders_92 : decode cX10_orders 92 = .ok (.iconst 0, 1) := by decide +kernel
theorem dX10_orders_93 : decode cX10_orders 93 = .ok (.istore 5, 2) := by decide +kernel
theorem dX10_orders_95 : decode cX10_orders 95 = .ok (.iconst 0, 1) := by decide +kernel
theorem dX10_orders_96 : decode cX10_orders 96 = .ok (.istore 6, 2) := by decide +kernel
theorem dX10_orders_98 : decode cX10_orders 98 = .ok (.iload 6, 2) := by decide +kernel
theorem dX10_orders_100 : decode cX10_orders 100 = .ok (.iload_n 2, 1) := by decide +kernel
theorem dX10_orders_101 : decode cX10_orders 101 = .ok (.if_icmp .ge 19, 3) := by decide +kernel
theorem dX10_orders_104 : decode cX10_orders 104 = .ok (.aload_n 0, 1) := by decide +kernel
theorem dX10_orders_105 : decode cX10_orders 105 = .ok (.iload 6, 2) := by decide +kernel
theorem dX10_orders_107 : decode cX10_orders 107 = .ok (.aload_n 0, 1) := by decide +kernel
theorem dX10_orders_108 : decode cX10_orders 108 = .ok (.getfield 181, 3) := by decide +kernel
theorem dX10_orders_111 : decode cX10_orders 111 = .ok (.invokevirtual 408, 3) := by decide +kernel
theorem dX10_orders_114 : decode cX10_orders 114 = .ok (.iinc 6 1, 3) := by decide +kernel
theorem dX10_orders_117 : decode cX10_orders 117 = .ok (.goto (-19), 3) := by decide +kernel
theorem dX10_orders_120 : decode cX10_orders 120 = .ok (.iconst 0, 1) := by decide +kernel
theorem dX10_orders_121 : decode cX10_orders 121 = .ok (.istore 6, 2) := by decide +kernel
theorem dX10_orders_123 : decode cX10_orders 123 = .ok (.iload 6, 2) := by decide +kernel
theorem dX10_orders_125 : decode cX10_orders 125 = .ok (.iload_n 2, 1) := by decide +kernel
theorem dX10_orders_126 : decode cX10_orders 126 = .ok (.if_icmp .ge 93, 3) := by decide +kernel
theorem dX10_orders_129 : decode cX10_orders 129 = .ok (.aload_n 0, 1) := by decide +kernel
theorem dX10_orders_130 : decode cX10_orders 130 = .ok (.getfield 124, 3) := by decide +kernel
theorem dX10_orders_133 : decode cX10_orders 133 = .ok (.iload 6, 2) := by decide +kernel
theorem dX10_orders_135 : decode cX10_orders 135 = .ok (.iaload, 1) := by decide +kernel
theorem dX10_orders_136 : decode cX10_orders 136 = .ok (.aload_n 0, 1) := by decide +kernel
theorem dX10_orders_137 : decode cX10_orders 137 = .ok (.getfield 124, 3) := by decide +kernel
theorem dX10_orders_140 : decode cX10_orders 140 = .ok (.iload_n 3, 1) := by decide +kernel
theorem dX10_orders_141 : decode cX10_orders 141 = .ok (.iaload, 1) := by decide +kernel
theorem dX10_orders_142 : decode cX10_orders 142 = .ok (.if_icmp .ge 8, 3) := by decide +kernel
theorem dX10_orders_145 : decode cX10_orders 145 = .ok (.iload 6, 2) := by decide +kernel
theorem dX10_orders_147 : decode cX10_orders 147 = .ok (.goto 4, 3) := by decide +kernel
theorem dX10_orders_150 : decode cX10_orders 150 = .ok (.iload_n 3, 1) := by decide +kernel
theorem dX10_orders_151 : decode cX10_orders 151 = .ok (.istore_n 3, 1) := by decide +kernel
theorem dX10_orders_152 : decode cX10_orders 152 = .ok (.iconst 1, 1) := by decide +kernel
theorem dX10_orders_153 : decode cX10_orders 153 = .ok (.istore 7, 2) := by decide +kernel
theorem dX10_orders_155 : decode cX10_orders 155 = .ok (.iconst 0, 1) := by decide +kernel
theorem dX10_orders_156 : decode cX10_orders 156 = .ok (.istore 8, 2) := by decide +kernel
theorem dX10_orders_158 : decode cX10_orders 158 = .ok (.iload 8, 2) := by decide +kernel
theorem dX10_orders_160 : decode cX10_orders 160 = .ok (.iload 6, 2) := by decide +kernel
theorem dX10_orders_162 : decode cX10_orders 162 = .ok (.if_icmp .ge 36, 3) := by decide +kernel
theorem dX10_orders_165 : decode cX10_orders 165 = .ok (.iload 7, 2) := by decide +kernel
theorem dX10_orders_167 : decode cX10_orders 167 = .ok (.aload_n 0, 1) := by decide +kernel
theorem dX10_orders_168 : decode cX10_orders 168 = .ok (.bipush 25, 2) := by decide +kernel
theorem dX10_orders_170 : decode cX10_orders 170 = .ok (.iload 8, 2) := by decide +kernel
theorem dX10_orders_172 : decode cX10_orders 172 = .ok (.iadd, 1) := by decide +kernel
theorem dX10_orders_173 : decode cX10_orders 173 = .ok (.bipush 25, 2) := by decide +kernel
theorem dX10_orders_175 : decode cX10_orders 175 = .ok (.iload 6, 2) := by decide +kernel
theorem dX10_orders_177 : decode cX10_orders 177 = .ok (.iadd, 1) := by decide +kernel
theorem dX10_orders_178 : decode cX10_orders 178 = .ok (.invokevirtual 411, 3) := by decide +kernel
theorem dX10_orders_181 : decode cX10_orders 181 = .ok (.ifCond .ne 7, 3) := by decide +kernel
theorem dX10_orders_184 : decode cX10_orders 184 = .ok (.iconst 1, 1) := by decide +kernel
theorem dX10_orders_185 : decode cX10_orders 185 = .ok (.goto 4, 3) := by decide +kernel
theorem dX10_orders_188 : decode cX10_orders 188 = .ok (.iconst 0, 1) := by decide +kernel
theorem dX10_orders_189 : decode cX10_orders 189 = .ok (.iand, 1) := by decide +kernel
theorem dX10_orders_190 : decode cX10_orders 190 = .ok (.istore 7, 2) := by decide +kernel
theorem dX10_orders_192 : decode cX10_orders 192 = .ok (.iinc 8 1, 3) := by decide +kernel
theorem dX10_orders_195 : decode cX10_orders 195 = .ok (.goto (-37), 3) := by decide +kernel
theorem dX10_orders_198 : decode cX10_orders 198 = .ok (.iload 4, 2) := by decide +kernel
theorem dX10_orders_200 : decode cX10_orders 200 = .ok (.iload 7, 2) := by decide +kernel
theorem dX10_orders_202 : decode cX10_orders 202 = .ok (.ifCond .eq 7, 3) := by decide +kernel
theorem dX10_orders_205 : decode cX10_orders 205 = .ok (.iconst 1, 1) := by decide +kernel
theorem dX10_orders_206 : decode cX10_orders 206 = .ok (.goto 4, 3) := by decide +kernel
theorem dX10_orders_209 : decode cX10_orders 209 = .ok (.iconst 0, 1) := by decide +kernel
theorem dX10_orders_210 : decode cX10_orders 210 = .ok (.iadd, 1) := by decide +kernel
theorem dX10_orders_211 : decode cX10_orders 211 = .ok (.istore 4, 2) := by decide +kernel
theorem dX10_orders_213 : decode cX10_orders 213 = .ok (.iinc 6 1, 3) := by decide +kernel
theorem dX10_orders_216 : decode cX10_orders 216 = .ok (.goto (-93), 3) := by decide +kernel
theorem dX10_orders_219 : decode cX10_orders 219 = .ok (.iconst 0, 1) := by decide +kernel
theorem dX10_orders_220 : decode cX10_orders 220 = .ok (.istore 6, 2) := by decide +kernel
theorem dX10_orders_222 : decode cX10_orders 222 = .ok (.iload 6, 2) := by decide +kernel
theorem dX10_orders_224 : decode cX10_orders 224 = .ok (.iload_n 2, 1) := by decide +kernel
theorem dX10_orders_225 : decode cX10_orders 225 = .ok (.if_icmp .ge 35, 3) := by decide +kernel
theorem dX10_orders_228 : decode cX10_orders 228 = .ok (.iload 5, 2) := by decide +kernel
theorem dX10_orders_230 : decode cX10_orders 230 = .ok (.aload_n 0, 1) := by decide +kernel
theorem dX10_orders_231 : decode cX10_orders 231 = .ok (.bipush 25, 2) := by decide +kernel
theorem dX10_orders_233 : decode cX10_orders 233 = .ok (.iload 6, 2) := by decide +kernel
theorem dX10_orders_235 : decode cX10_orders 235 = .ok (.iadd, 1) := by decide +kernel
theorem dX10_orders_236 : decode cX10_orders 236 = .ok (.bipush 25, 2) := by decide +kernel
theorem dX10_orders_238 : decode cX10_orders 238 = .ok (.iload_n 3, 1) := by decide +kernel
theorem dX10_orders_239 : decode cX10_orders 239 = .ok (.iadd, 1) := by decide +kernel
theorem dX10_orders_240 : decode cX10_orders 240 = .ok (.invokevirtual 411, 3) := by decide +kernel
theorem dX10_orders_243 : decode cX10_orders 243 = .ok (.ifCond .eq 7, 3) := by decide +kernel
theorem dX10_orders_246 : decode cX10_orders 246 = .ok (.iconst 1, 1) := by decide +kernel
theorem dX10_orders_247 : decode cX10_orders 247 = .ok (.goto 4, 3) := by decide +kernel
theorem dX10_orders_250 : decode cX10_orders 250 = .ok (.iconst 0, 1) := by decide +kernel
theorem dX10_orders_251 : decode cX10_orders 251 = .ok (.iadd, 1) := by decide +kernel
theorem dX10_orders_252 : decode cX10_orders 252 = .ok (.istore 5, 2) := by decide +kernel
theorem dX10_orders_254 : decode cX10_orders 254 = .ok (.iinc 6 1, 3) := by decide +kernel
theorem dX10_orders_257 : decode cX10_orders 257 = .ok (.goto (-35), 3) := by decide +kernel
theorem dX10_orders_260 : decode cX10_orders 260 = .ok (.iload_n 1, 1) := by decide +kernel
theorem dX10_orders_261 : decode cX10_orders 261 = .ok (.ifCond .ne 8, 3) := by decide +kernel
theorem dX10_orders_264 : decode cX10_orders 264 = .ok (.iload 4, 2) := by decide +kernel
theorem dX10_orders_266 : decode cX10_orders 266 = .ok (.goto 28, 3) := by decide +kernel
theorem dX10_orders_269 : decode cX10_orders 269 = .ok (.iload_n 1, 1) := by decide +kernel
theorem dX10_orders_270 : decode cX10_orders 270 = .ok (.iconst 1, 1) := by decide +kernel
theorem dX10_orders_271 : decode cX10_orders 271 = .ok (.if_icmp .ne 12, 3) := by decide +kernel
theorem dX10_orders_274 : decode cX10_orders 274 = .ok (.aload_n 0, 1) := by decide +kernel
theorem dX10_orders_275 : decode cX10_orders 275 = .ok (.getfield 124, 3) := by decide +kernel
theorem dX10_orders_278 : decode cX10_orders 278 = .ok (.iload_n 3, 1) := by decide +kernel
theorem dX10_orders_279 : decode cX10_orders 279 = .ok (.iaload, 1) := by decide +kernel
theorem dX10_orders_280 : decode cX10_orders 280 = .ok (.goto 14, 3) := by decide +kernel
theorem dX10_orders_283 : decode cX10_orders 283 = .ok (.iload_n 1, 1) := by decide +kernel
theorem dX10_orders_284 : decode cX10_orders 284 = .ok (.iconst 2, 1) := by decide +kernel
theorem dX10_orders_285 : decode cX10_orders 285 = .ok (.if_icmp .ne 7, 3) := by decide +kernel
theorem dX10_orders_288 : decode cX10_orders 288 = .ok (.iload_n 3, 1) := by decide +kernel
theorem dX10_orders_289 : decode cX10_orders 289 = .ok (.goto 5, 3) := by decide +kernel
theorem dX10_orders_292 : decode cX10_orders 292 = .ok (.iload 5, 2) := by decide +kernel
theorem dX10_orders_294 : decode cX10_orders 294 = .ok (.ireturn, 1) := by decide +kernel
/-! what is told about all orders -/
def OAl (x y : Nat) : Prop := LD 0 x y ∨ (532 ≤ x ∧ x < 578) ∨ (603 ≤ x ∧ x < 649) ∨ (674 ≤ x ∧ x < 719) ∨ (x = 719 ∧ 25 ≤ y) ∨ x = 6323 ∨ x = 6324
theorem OAl_PS {x y : Nat} (h : OAl x y) : PS x y := by unfold OAl LD at h; unfold PS; show_term (have zq0 : True := trivial; omega)
theorem OQo_OAl {k x y : Nat} (hk : k < 24) (h : OQo k x y) : OAl x y := by
  unfold OQo PT at h
  unfold OAl
  rcases h with h | h
  · exact Or.inl h
  · right; show_term (have zq1 : True := trivial; omega)
def tr9 (μ : va_M) (j : Nat) : Prop := ∃ w : Rw, rWF w ∧ rN w ≤ 900 ∧ TR μ (25 + j) w
theorem tr9_tok {μ : va_M} {j : Nat} (h : tr9 μ j) : tok μ (25 + j) := by
  obtain ⟨w, h1, h2, h3⟩ := h
  exact TR_tok h3 h1 h2
theorem tr9_fr {μ u : va_M} {j k : Nat} (h : tr9 μ j) (hf : fr (OQo k) μ u) (hjk : j < k) (hk : k < 24) : tr9 u j := by
  obtain ⟨w, h1, h2, h3⟩ := h
  exact ⟨w, h1, h2, TR_fr h3 hf (fun x => by unfold OQo LD PT; show_term (have zq2 : True := trivial; omega)) (by unfold OQo LD PT; show_term (have zq3 : True := trivial; omega))⟩
theorem and_is1 {z f : Int} (hz : inR z) (hf : f = 0 ∨ f = 1) (e : iZ z = iZ f &&& iZ 1) : z = f := by
  rcases hf with rfl | rfl
  · exact (iZ_eq hz (by decide)).mp (e.trans (by decide))
  · exact (iZ_eq hz (by decide)).mp (e.trans (by decide))
theorem and_is0 {z f : Int} (hz : inR z) (hf : f = 0 ∨ f = 1) (e : iZ z = iZ f &&& iZ 0) : z = 0 := by
  rcases hf with rfl | rfl
  · exact (iZ_eq hz (by decide)).mp (e.trans (by decide))
  · exact (iZ_eq hz (by decide)).mp (e.trans (by decide))
set_option maxHeartbeats 4000000 in
set_option maxRecDepth 100000 in
theorem LX10_orders_98 {p : Program} {l : Launch} {e : Env} {R : Room} {s : State} {m : MethodId} {args : Array Value} {below : List Frame} {meth : Method} {c : Code} {cells slots : Nat} {Q : State → Prop} {dC : Nat → ClassId} {dI : Nat → Nat → Nat} {h0 : Nat} {cI cZ cII cIII : ClassId} (hx : p.tables.exec = Jvm.exec) (hb : c.code = cX10_orders) (hml : c.maxLocals = 9) (hown : s.vm.findClass RX10 = some m.cls) (hts : ∀ w ∈ wsG, w.before args s = true) (hK : va_K (dC, dI) vwCl (mT cI cZ cII cIII) s) (hRf : 70 ≤ R.frames) (hRl : 2378 ≤ R.locals) (hRc : cells ≤ R.cells) (hRs : slots ≤ R.slots) (μ0 : va_M) (wh : Int) (cnt : Int) (J : Rw → Prop) (hQ0 : RQ μ0) (hJK : JOK J) (h10 : 1 ≤ μ0 0 10 ∧ μ0 0 10 ≤ 4) (hcn : 1 ≤ cnt ∧ cnt ≤ 24) (hkO : ∀ j : Int, 0 ≤ j → j < cnt → kOK j (μ0 0 10)) (hexit120 : ∀ (kk : Int) (μ : va_M) (H : Heap) (locs : List Loc) (ls : Array Slot), (fr OAl μ0 μ) → (∀ j : Nat, (j : Int) < cnt → tr9 μ j) → (∀ j : Nat, (j : Int) < cnt → 0 ≤ μ 6324 j ∧ μ 6324 j ≤ 1600) → va_P (dC, dI) vwCl (fw (mE cI cZ cII cIII h0) h0 6325 μ) H → va_S (fA h0 6325 s.heap.size) s.heap H locs → lv_has ls 9 [(5, .int (iZ (0))), (4, .int (iZ (0))), (3, .int (iZ (0))), (2, .int (iZ (cnt))), (1, .int (iZ (wh))), (0, .ref h0)] → W p l e R s m args below meth c H locs cells slots Q (F0 m 120 ls [])) :
    ∀ (n9 : Nat) (kk : Int) (μ : va_M) (H : Heap) (locs : List Loc) (ls : Array Slot), (0 ≤ kk ∧ kk ≤ cnt) → (fr OAl μ0 μ) → (∀ j : Nat, (j : Int) < kk → tr9 μ j) → (∀ j : Nat, (j : Int) < kk → 0 ≤ μ 6324 j ∧ μ 6324 j ≤ 1600) → (30 - kk).toNat < n9 → va_P (dC, dI) vwCl (fw (mE cI cZ cII cIII h0) h0 6325 μ) H → va_S (fA h0 6325 s.heap.size) s.heap H locs → lv_has ls 9 [(6, .int (iZ (kk))), (5, .int (iZ (0))), (4, .int (iZ (0))), (3, .int (iZ (0))), (2, .int (iZ (cnt))), (1, .int (iZ (wh))), (0, .ref h0)] → W p l e R s m args below meth c H locs cells slots Q (F0 m 98 ls []) := by
  intro n9
  induction n9 with
  | zero => intro kk μ H locs ls hi hf htr hc hm9 hP hS hl; exact absurd hm9 (Nat.not_lt_zero _)
  | succ n9 ih =>
    intro kk μ H locs ls hi hf htr hc hm9 hP hS hl
    have e10k := hf 0 10 (by unfold OAl LD; show_term (have zq4 : True := trivial; omega))
    refine lv_iload hx hb dX10_orders_98 (lv_at hl 0 rfl) ?_
    refine lv_iload_n hx hb dX10_orders_100 rfl (lv_at hl 4 rfl) ?_
    refine fz_icmp_ge (tgt := 120) (by constructor <;> show_term (have zq5 : True := trivial; omega)) (by constructor <;> show_term (have zq6 : True := trivial; omega)) hx hb dX10_orders_101 (by decide) (fun c101_ => ?_) (fun c101_ => ?_)
    · exact hexit120 (kk) μ H locs ls (by exact hf) (by intro j hj; exact htr j (by show_term (have zq7 : True := trivial; omega))) (by intro j hj; exact hc j (by show_term (have zq8 : True := trivial; omega))) hP hS (lv_sub hl [1, 2, 3, 4, 5, 6] rfl)
    · have hkk := hkO kk (by show_term (have zq9 : True := trivial; omega)) (by show_term (have zq10 : True := trivial; omega))
      refine lv_aload_n hx hb dX10_orders_104 rfl (lv_at hl 6 rfl) ?_
      refine lv_iload hx hb dX10_orders_105 (lv_at hl 0 rfl) ?_
      refine lv_aload_n hx hb dX10_orders_107 rfl (lv_at hl 6 rfl) ?_
      refine fz_get (D := (dC, dI)) (ci := 10) (v := .int (iZ (μ 0 10))) (C := RX10) (T := TX10) (N := 53) hx hb hts inG10 hown hK hP (k := 0) (by decide) (F := mF h0) mE_obj rfl 10 (by decide) (hts _ k1176) (fun _ h9 => h9) rfl dX10_orders_108 ?_
      refine va_callv (va_runV (As := [.int (iZ (kk)), .int (iZ (μ 0 10))]) (rest := []) ⟨hx, hb, hml, hown, hts⟩ (m_goesInOrder l dC dI cI cZ cII cIII h0 H.size μ (kk) (μ 0 10) (J) (by show_term (have zq11 : True := trivial; omega)) (by rw [e10k]; exact hkk) (by show_term (have zq12 : True := trivial; omega)) (by exact hJK) (by exact RQ_fr hQ0 (fr_mono hf (fun x y h => OAl_PS h)))) (cwV 2 hts (gV_G k1711 k1713 ks_yX10_goesInOrder k13 k1714) rfl rfl rfl (by decide +kernel) ⟨by show 69 + 1 ≤ _; show_term (have zq13 : True := trivial; omega), by show 8 + (4 + 11) + (2355) ≤ _; show_term (have zq14 : True := trivial; omega)⟩) ⟨fun a U g mk q => by obtain ⟨q0, q1, qP, qK⟩ := q; exact ⟨q0, q1, qP, va_K.moved (u := U) (U := U.calling g mk a) (Vm.Alike.refl U.vm) qK⟩, va_recv hK hP (ci := 10) (q0 := 0) rfl ((fw_get (by decide)).trans (by rw [mE_obj]; rfl)), fun U hU hW => ⟨rfl, by rw [hU], by rw [hU]; exact hP, va_K.moved hW.alike hK⟩⟩ rfl rfl hl.1 rfl (lv_room (Nat.le_of_ble_eq_true rfl)) dX10_orders_111 ⟨hRc, hRs⟩) hS (fun q _ h => fA_le hS.1 q h) (fA_le hS.1) (fun u9 t9 H1 locs ht9 hvm9 hw9 hB9 hz9 hk9 hS => ?_)
      obtain ⟨hP, -⟩ := hB9
      rw [ht9] at hP
      generalize H1 = H at hP hS ⊢
      obtain ⟨μg, eμg⟩ : ∃ x : va_M, x = u9 := ⟨_, rfl⟩
      rw [← eμg] at hP hw9
      have hμg := hw9; clear hw9
      obtain ⟨⟨gw, gw1, gw2⟩, g2_, g3_, g4_⟩ := hμg
      have gsk := hJK.2.2.2.2 _ gw (by show_term (have zq15 : True := trivial; omega)) gw1
      refine lv_iinc (v := iZ (kk + 1)) (lv' := [(6, .int (iZ (kk + 1))), (5, .int (iZ (0))), (4, .int (iZ (0))), (3, .int (iZ (0))), (2, .int (iZ (cnt))), (1, .int (iZ (wh))), (0, .ref h0)]) hx hb dX10_orders_114 hl (k := 0) rfl (iZ_add _ _) (by decide) rfl (fun ls hl => ?_)
      refine lv_goto (tgt := 98) hx hb dX10_orders_117 (by decide) ?_
      exact ih (kk + 1) μg H locs ls (by show_term (have zq16 : True := trivial; omega)) (by exact fr_trans hf (fr_mono g2_ (fun x y h => OQo_OAl (by show_term (have zq17 : True := trivial; omega)) h))) (by
                    intro j hj
                    by_cases h9 : j = kk.toNat
                    · subst h9
                      rw [show (25 + kk).toNat = 25 + kk.toNat by show_term (have zq18 : True := trivial; omega)] at gw2
                      exact ⟨gw, gsk.1.1, gsk.1.2.1, gw2⟩
                    · exact tr9_fr (htr j (by show_term (have zq19 : True := trivial; omega))) g2_ (by show_term (have zq20 : True := trivial; omega)) (by show_term (have zq21 : True := trivial; omega))) (by
                    intro j hj
                    by_cases h9 : j = kk.toNat
                    · subst h9; exact ⟨g3_, g4_⟩
                    · rw [g2_ 6324 j (by unfold OQo LD PT; show_term (have zq22 : True := trivial; omega))]; exact hc j (by show_term (have zq23 : True := trivial; omega))) (by show_term (have zq24 : True := trivial; omega)) hP hS (lv_sub hl [0, 1, 2, 3, 4, 5, 6] rfl)
set_option maxHeartbeats 4000000 in
set_option maxRecDepth 100000 in
theorem LX10_orders_158 {p : Program} {l : Launch} {e : Env} {R : Room} {s : State} {m : MethodId} {args : Array Value} {below : List Frame} {meth : Method} {c : Code} {cells slots : Nat} {Q : State → Prop} {dC : Nat → ClassId} {dI : Nat → Nat → Nat} {h0 : Nat} {cI cZ cII cIII : ClassId} (hx : p.tables.exec = Jvm.exec) (hb : c.code = cX10_orders) (hml : c.maxLocals = 9) (hown : s.vm.findClass RX10 = some m.cls) (hts : ∀ w ∈ wsG, w.before args s = true) (hK : va_K (dC, dI) vwCl (mT cI cZ cII cIII) s) (hRf : 70 ≤ R.frames) (hRl : 2378 ≤ R.locals) (hRc : cells ≤ R.cells) (hRs : slots ≤ R.slots) (μ0 : va_M) (wh : Int) (cnt : Int) (i : Int) (di : Int) (hcn : 1 ≤ cnt ∧ cnt ≤ 24) (htr : ∀ j : Nat, (j : Int) < cnt → tr9 μ0 j) (hi9 : 0 ≤ i ∧ i < cnt) (hexit198 : ∀ (j : Int) (fs : Int) (le8 : Int) (μ : va_M) (H : Heap) (locs : List Loc) (ls : Array Slot), (μ = μ0) → (fs = 0 ∨ fs = 1) → (0 ≤ le8 ∧ le8 < cnt) → va_P (dC, dI) vwCl (fw (mE cI cZ cII cIII h0) h0 6325 μ) H → va_S (fA h0 6325 s.heap.size) s.heap H locs → lv_has ls 9 [(7, .int (iZ (fs))), (6, .int (iZ (i))), (5, .int (iZ (0))), (4, .int (iZ (di))), (3, .int (iZ (le8))), (2, .int (iZ (cnt))), (1, .int (iZ (wh))), (0, .ref h0)] → W p l e R s m args below meth c H locs cells slots Q (F0 m 198 ls [])) :
    ∀ (n9 : Nat) (j : Int) (fs : Int) (le8 : Int) (μ : va_M) (H : Heap) (locs : List Loc) (ls : Array Slot), (μ = μ0) → (0 ≤ j ∧ j ≤ i) → (fs = 0 ∨ fs = 1) → (0 ≤ le8 ∧ le8 < cnt) → (30 - j).toNat < n9 → va_P (dC, dI) vwCl (fw (mE cI cZ cII cIII h0) h0 6325 μ) H → va_S (fA h0 6325 s.heap.size) s.heap H locs → lv_has ls 9 [(8, .int (iZ (j))), (7, .int (iZ (fs))), (6, .int (iZ (i))), (5, .int (iZ (0))), (4, .int (iZ (di))), (3, .int (iZ (le8))), (2, .int (iZ (cnt))), (1, .int (iZ (wh))), (0, .ref h0)] → W p l e R s m args below meth c H locs cells slots Q (F0 m 158 ls []) := by
  intro n9
  induction n9 with
  | zero => intro j fs le8 μ H locs ls hm9_ hj hfs hl8 hm9 hP hS hl; exact absurd hm9 (Nat.not_lt_zero _)
  | succ n9 ih =>
    intro j fs le8 μ H locs ls hm9_ hj hfs hl8 hm9 hP hS hl
    subst hm9_
    refine lv_iload hx hb dX10_orders_158 (lv_at hl 0 rfl) ?_
    refine lv_iload hx hb dX10_orders_160 (lv_at hl 2 rfl) ?_
    refine fz_icmp_ge (tgt := 198) (by constructor <;> show_term (have zq25 : True := trivial; omega)) (by constructor <;> show_term (have zq26 : True := trivial; omega)) hx hb dX10_orders_162 (by decide) (fun c162_ => ?_) (fun c162_ => ?_)
    · exact hexit198 (j) (fs) (le8) μ H locs ls (by rfl) (by show_term (have zq27 : True := trivial; omega)) (by show_term (have zq28 : True := trivial; omega)) hP hS (lv_sub hl [1, 2, 3, 4, 5, 6, 7, 8] rfl)
    · refine lv_iload hx hb dX10_orders_165 (lv_at hl 1 rfl) ?_
      refine lv_aload_n hx hb dX10_orders_167 rfl (lv_at hl 8 rfl) ?_
      refine lv_bipush (v := iZ 25) hx hb dX10_orders_168 rfl ?_
      refine lv_iload hx hb dX10_orders_170 (lv_at hl 0 rfl) ?_
      refine lv_iadd hx hb dX10_orders_172 ?_
      refine lv_topi (fun x9 ex9 => ?_)
      obtain rfl : x9 = iZ (25 + j) := ex9.trans (iZ_add _ _)
      refine lv_bipush (v := iZ 25) hx hb dX10_orders_173 rfl ?_
      refine lv_iload hx hb dX10_orders_175 (lv_at hl 2 rfl) ?_
      refine lv_iadd hx hb dX10_orders_177 ?_
      refine lv_topi (fun x9 ex9 => ?_)
      obtain rfl : x9 = iZ (25 + i) := ex9.trans (iZ_add _ _)
      refine va_calli (va_runV (As := [.int (iZ (25 + j)), .int (iZ (25 + i))]) (rest := [.int (iZ (fs))]) ⟨hx, hb, hml, hown, hts⟩ (m_areSame l dC dI cI cZ cII cIII h0 H.size μ (25 + j) (25 + i) (by show_term (have zq29 : True := trivial; omega)) (by show_term (have zq30 : True := trivial; omega)) (by rw [show (25 + j).toNat = 25 + (j).toNat by show_term (have zq31 : True := trivial; omega)]; exact tr9_tok (htr (j).toNat (by show_term (have zq32 : True := trivial; omega)))) (by rw [show (25 + i).toNat = 25 + (i).toNat by show_term (have zq33 : True := trivial; omega)]; exact tr9_tok (htr (i).toNat (by show_term (have zq34 : True := trivial; omega))))) (cwV 2 hts (gV_G k1719 k1721 ks_yX10_areSame k13 k1722) rfl rfl rfl (by decide +kernel) ⟨by show 1 + 1 ≤ _; show_term (have zq35 : True := trivial; omega), by show 8 + (4 + 11) + (14) ≤ _; show_term (have zq36 : True := trivial; omega)⟩) ⟨fun a U g mk q => by obtain ⟨q0, q1, qP, qK⟩ := q; exact ⟨q0, q1, qP, va_K.moved (u := U) (U := U.calling g mk a) (Vm.Alike.refl U.vm) qK⟩, va_recv hK hP (ci := 10) (q0 := 0) rfl ((fw_get (by decide)).trans (by rw [mE_obj]; rfl)), fun U hU hW => ⟨rfl, by rw [hU], by rw [hU]; exact hP, va_K.moved hW.alike hK⟩⟩ rfl rfl hl.1 rfl (lv_room (Nat.le_of_ble_eq_true rfl)) dX10_orders_178 ⟨hRc, hRs⟩) hS (fun q _ h => fA_le hS.1 q h) (fA_le hS.1) (fun r9 u9 t9 H1 locs ht9 hvm9 hw9 hB9 hz9 hk9 hS => ?_)
      obtain ⟨μq, rq⟩ := u9
      obtain ⟨hP, -⟩ := hB9
      rw [ht9] at hP
      generalize H1 = H at hP hS ⊢
      obtain ⟨e9, hw9⟩ := hw9
      have e9 : r9 = iZ rq := e9
      subst e9
      simp only at hP hw9
      have hμq := hw9; clear hw9
      rw [hμq.1] at hP; have hμq := hμq.2
      have hrq := hμq
      refine fz_if_ne (tgt := 188) (by constructor <;> show_term (have zq37 : True := trivial; omega)) hx hb dX10_orders_181 (by decide) (fun c181_ => ?_) (fun c181_ => ?_)
      · refine lv_iconst (v := iZ 0) hx hb dX10_orders_188 rfl ?_
        refine lv_iand hx hb dX10_orders_189 ?_
        refine lv_topi (fun x9 ex9 => ?_)
        obtain ⟨z1, rfl, hz1⟩ := iZ_ex x9
        have ez1 := ex9; clear ex9
        rw [show z1 = 0 from (by exact and_is0 hz1 hfs ez1)]
        refine lv_istore (lv' := [(7, .int (iZ (0))), (8, .int (iZ (j))), (6, .int (iZ (i))), (5, .int (iZ (0))), (4, .int (iZ (di))), (3, .int (iZ (le8))), (2, .int (iZ (cnt))), (1, .int (iZ (wh))), (0, .ref h0)]) hx hb dX10_orders_190 hl (by decide) rfl (fun ls hl => ?_)
        refine lv_iinc (v := iZ (j + 1)) (lv' := [(8, .int (iZ (j + 1))), (7, .int (iZ (0))), (6, .int (iZ (i))), (5, .int (iZ (0))), (4, .int (iZ (di))), (3, .int (iZ (le8))), (2, .int (iZ (cnt))), (1, .int (iZ (wh))), (0, .ref h0)]) hx hb dX10_orders_192 hl (k := 1) rfl (iZ_add _ _) (by decide) rfl (fun ls hl => ?_)
        refine lv_goto (tgt := 158) hx hb dX10_orders_195 (by decide) ?_
        exact ih (j + 1) (0) (le8) μ H locs ls (by rfl) (by show_term (have zq38 : True := trivial; omega)) (by show_term (have zq39 : True := trivial; omega)) (by show_term (have zq40 : True := trivial; omega)) (by show_term (have zq41 : True := trivial; omega)) hP hS (lv_sub hl [0, 1, 2, 3, 4, 5, 6, 7, 8] rfl)
      · refine lv_iconst (v := iZ 1) hx hb dX10_orders_184 rfl ?_
        refine lv_goto (tgt := 189) hx hb dX10_orders_185 (by decide) ?_
        refine lv_iand hx hb dX10_orders_189 ?_
        refine lv_topi (fun x9 ex9 => ?_)
        obtain ⟨z2, rfl, hz2⟩ := iZ_ex x9
        have ez2 := ex9; clear ex9
        rw [show z2 = fs from (by exact and_is1 hz2 hfs ez2)]
        refine lv_istore (lv' := [(7, .int (iZ (fs))), (8, .int (iZ (j))), (6, .int (iZ (i))), (5, .int (iZ (0))), (4, .int (iZ (di))), (3, .int (iZ (le8))), (2, .int (iZ (cnt))), (1, .int (iZ (wh))), (0, .ref h0)]) hx hb dX10_orders_190 hl (by decide) rfl (fun ls hl => ?_)
        refine lv_iinc (v := iZ (j + 1)) (lv' := [(8, .int (iZ (j + 1))), (7, .int (iZ (fs))), (6, .int (iZ (i))), (5, .int (iZ (0))), (4, .int (iZ (di))), (3, .int (iZ (le8))), (2, .int (iZ (cnt))), (1, .int (iZ (wh))), (0, .ref h0)]) hx hb dX10_orders_192 hl (k := 1) rfl (iZ_add _ _) (by decide) rfl (fun ls hl => ?_)
        refine lv_goto (tgt := 158) hx hb dX10_orders_195 (by decide) ?_
        exact ih (j + 1) (fs) (le8) μ H locs ls (by rfl) (by show_term (have zq42 : True := trivial; omega)) (by show_term (have zq43 : True := trivial; omega)) (by show_term (have zq44 : True := trivial; omega)) (by show_term (have zq45 : True := trivial; omega)) hP hS (lv_sub hl [0, 1, 2, 3, 4, 5, 6, 7, 8] rfl)
set_option maxHeartbeats 4000000 in
set_option maxRecDepth 100000 in
theorem LX10_orders_123 {p : Program} {l : Launch} {e : Env} {R : Room} {s : State} {m : MethodId} {args : Array Value} {below : List Frame} {meth : Method} {c : Code} {cells slots : Nat} {Q : State → Prop} {dC : Nat → ClassId} {dI : Nat → Nat → Nat} {h0 : Nat} {cI cZ cII cIII : ClassId} (hx : p.tables.exec = Jvm.exec) (hb : c.code = cX10_orders) (hml : c.maxLocals = 9) (hown : s.vm.findClass RX10 = some m.cls) (hts : ∀ w ∈ wsG, w.before args s = true) (hK : va_K (dC, dI) vwCl (mT cI cZ cII cIII) s) (hRf : 70 ≤ R.frames) (hRl : 2378 ≤ R.locals) (hRc : cells ≤ R.cells) (hRs : slots ≤ R.slots) (μ0 : va_M) (wh : Int) (cnt : Int) (hcn : 1 ≤ cnt ∧ cnt ≤ 24) (htr : ∀ j : Nat, (j : Int) < cnt → tr9 μ0 j) (hc : ∀ j : Nat, (j : Int) < cnt → 0 ≤ μ0 6324 j ∧ μ0 6324 j ≤ 1600) (hexit219 : ∀ (i : Int) (le9 : Int) (di : Int) (μ : va_M) (H : Heap) (locs : List Loc) (ls : Array Slot), (μ = μ0) → (0 ≤ le9 ∧ le9 < cnt) → (0 ≤ di ∧ di ≤ 24) → va_P (dC, dI) vwCl (fw (mE cI cZ cII cIII h0) h0 6325 μ) H → va_S (fA h0 6325 s.heap.size) s.heap H locs → lv_has ls 9 [(5, .int (iZ (0))), (4, .int (iZ (di))), (3, .int (iZ (le9))), (2, .int (iZ (cnt))), (1, .int (iZ (wh))), (0, .ref h0)] → W p l e R s m args below meth c H locs cells slots Q (F0 m 219 ls [])) :
    ∀ (n9 : Nat) (i : Int) (le9 : Int) (di : Int) (μ : va_M) (H : Heap) (locs : List Loc) (ls : Array Slot), (μ = μ0) → (0 ≤ i ∧ i ≤ cnt) → (0 ≤ le9 ∧ le9 < cnt) → (0 ≤ di ∧ di ≤ i) → (30 - i).toNat < n9 → va_P (dC, dI) vwCl (fw (mE cI cZ cII cIII h0) h0 6325 μ) H → va_S (fA h0 6325 s.heap.size) s.heap H locs → lv_has ls 9 [(6, .int (iZ (i))), (5, .int (iZ (0))), (4, .int (iZ (di))), (3, .int (iZ (le9))), (2, .int (iZ (cnt))), (1, .int (iZ (wh))), (0, .ref h0)] → W p l e R s m args below meth c H locs cells slots Q (F0 m 123 ls []) := by
  intro n9
  induction n9 with
  | zero => intro i le9 di μ H locs ls hm9_ hi hl9 hd9 hm9 hP hS hl; exact absurd hm9 (Nat.not_lt_zero _)
  | succ n9 ih =>
    intro i le9 di μ H locs ls hm9_ hi hl9 hd9 hm9 hP hS hl
    subst hm9_
    refine lv_iload hx hb dX10_orders_123 (lv_at hl 0 rfl) ?_
    refine lv_iload_n hx hb dX10_orders_125 rfl (lv_at hl 4 rfl) ?_
    refine fz_icmp_ge (tgt := 219) (by constructor <;> show_term (have zq46 : True := trivial; omega)) (by constructor <;> show_term (have zq47 : True := trivial; omega)) hx hb dX10_orders_126 (by decide) (fun c126_ => ?_) (fun c126_ => ?_)
    · exact hexit219 (i) (le9) (di) μ H locs ls (by rfl) (by show_term (have zq48 : True := trivial; omega)) (by show_term (have zq49 : True := trivial; omega)) hP hS (lv_sub hl [1, 2, 3, 4, 5, 6] rfl)
    · have hci := hc i.toNat (by show_term (have zq50 : True := trivial; omega))
      have hcl := hc le9.toNat (by show_term (have zq51 : True := trivial; omega))
      refine lv_aload_n hx hb dX10_orders_129 rfl (lv_at hl 6 rfl) ?_
      refine fz_get (D := (dC, dI)) (ci := 10) (v := .ref (h0 + 6324)) (C := RX10) (T := TX10) (N := 53) hx hb hts inG10 hown hK hP (k := 0) (by decide) (F := mF h0) mE_obj rfl 52 (by decide) (hts _ k1218) (fun _ h9 => h9) rfl dX10_orders_130 ?_
      refine lv_iload hx hb dX10_orders_133 (lv_at hl 0 rfl) ?_
      refine fz_ld (k := 6324) (n := 24) hx hb hK hP 0 (by decide) mE_orderCost rfl ⟨by show_term (have zq52 : True := trivial; omega), by show_term (have zq53 : True := trivial; omega)⟩ (by decide) dX10_orders_135 ?_
      refine lv_aload_n hx hb dX10_orders_136 rfl (lv_at hl 6 rfl) ?_
      refine fz_get (D := (dC, dI)) (ci := 10) (v := .ref (h0 + 6324)) (C := RX10) (T := TX10) (N := 53) hx hb hts inG10 hown hK hP (k := 0) (by decide) (F := mF h0) mE_obj rfl 52 (by decide) (hts _ k1218) (fun _ h9 => h9) rfl dX10_orders_137 ?_
      refine lv_iload_n hx hb dX10_orders_140 rfl (lv_at hl 3 rfl) ?_
      refine fz_ld (k := 6324) (n := 24) hx hb hK hP 0 (by decide) mE_orderCost rfl ⟨by show_term (have zq54 : True := trivial; omega), by show_term (have zq55 : True := trivial; omega)⟩ (by decide) dX10_orders_141 ?_
      refine fz_icmp_ge (tgt := 150) (by constructor <;> show_term (have zq56 : True := trivial; omega)) (by constructor <;> show_term (have zq57 : True := trivial; omega)) hx hb dX10_orders_142 (by decide) (fun c142_ => ?_) (fun c142_ => ?_)
      · refine lv_iload_n hx hb dX10_orders_150 rfl (lv_at hl 3 rfl) ?_
        refine lv_istore_n (lv' := [(3, .int (iZ (le9))), (6, .int (iZ (i))), (5, .int (iZ (0))), (4, .int (iZ (di))), (2, .int (iZ (cnt))), (1, .int (iZ (wh))), (0, .ref h0)]) hx hb dX10_orders_151 rfl hl (by decide) rfl (fun ls hl => ?_)
        refine lv_iconst (v := iZ 1) hx hb dX10_orders_152 rfl ?_
        refine lv_istore (lv' := [(7, .int (iZ (1))), (3, .int (iZ (le9))), (6, .int (iZ (i))), (5, .int (iZ (0))), (4, .int (iZ (di))), (2, .int (iZ (cnt))), (1, .int (iZ (wh))), (0, .ref h0)]) hx hb dX10_orders_153 hl (by decide) rfl (fun ls hl => ?_)
        refine lv_iconst (v := iZ 0) hx hb dX10_orders_155 rfl ?_
        refine lv_istore (lv' := [(8, .int (iZ (0))), (7, .int (iZ (1))), (3, .int (iZ (le9))), (6, .int (iZ (i))), (5, .int (iZ (0))), (4, .int (iZ (di))), (2, .int (iZ (cnt))), (1, .int (iZ (wh))), (0, .ref h0)]) hx hb dX10_orders_156 hl (by decide) rfl (fun ls hl => ?_)
        refine LX10_orders_158 hx hb hml hown hts hK hRf hRl hRc hRs (μ) (wh) (cnt) (i) (di) (by exact hcn) (by exact htr) (by show_term (have zq58 : True := trivial; omega)) ?_ _ (0) (1) (le9) μ H locs ls (by rfl) (by show_term (have zq59 : True := trivial; omega)) (by exact Or.inr rfl) (by show_term (have zq60 : True := trivial; omega)) (Nat.lt_succ_self _) hP hS (lv_sub hl [0, 1, 3, 4, 5, 2, 6, 7, 8] rfl)
        · intro j_3 fs_3 le8_3 μ3_ H locs ls q7_3 q8_3 q9_3 hP hS hl
          have hl : lv_has ls 9 [(7, .int (iZ (fs_3))), (6, .int (iZ (i))), (5, .int (iZ (0))), (4, .int (iZ (di))), (3, .int (iZ (le8_3))), (2, .int (iZ (cnt))), (1, .int (iZ (wh))), (0, .ref h0)] := hl
          have hPn198 := hP
          obtain rfl := q7_3
          have hP := hPn198
          have q8_ := q8_3
          have q9_ := q9_3
          refine lv_iload hx hb dX10_orders_198 (lv_at hl 3 rfl) ?_
          refine lv_iload hx hb dX10_orders_200 (lv_at hl 0 rfl) ?_
          refine fz_if_eq (tgt := 209) (by constructor <;> show_term (have zq61 : True := trivial; omega)) hx hb dX10_orders_202 (by decide) (fun c202_ => ?_) (fun c202_ => ?_)
          · refine lv_iconst (v := iZ 0) hx hb dX10_orders_209 rfl ?_
            refine lv_iadd hx hb dX10_orders_210 ?_
            refine lv_topi (fun x9 ex9 => ?_)
            obtain rfl : x9 = iZ (di + 0) := ex9.trans (iZ_add _ _)
            refine lv_istore (lv' := [(4, .int (iZ (di + 0))), (7, .int (iZ (fs_3))), (6, .int (iZ (i))), (5, .int (iZ (0))), (3, .int (iZ (le8_3))), (2, .int (iZ (cnt))), (1, .int (iZ (wh))), (0, .ref h0)]) hx hb dX10_orders_211 hl (by decide) rfl (fun ls hl => ?_)
            refine lv_iinc (v := iZ (i + 1)) (lv' := [(6, .int (iZ (i + 1))), (4, .int (iZ (di + 0))), (7, .int (iZ (fs_3))), (5, .int (iZ (0))), (3, .int (iZ (le8_3))), (2, .int (iZ (cnt))), (1, .int (iZ (wh))), (0, .ref h0)]) hx hb dX10_orders_213 hl (k := 2) rfl (iZ_add _ _) (by decide) rfl (fun ls hl => ?_)
            refine lv_goto (tgt := 123) hx hb dX10_orders_216 (by decide) ?_
            exact ih (i + 1) (le8_3) (di + 0) μ3_ H locs ls (by rfl) (by show_term (have zq62 : True := trivial; omega)) (by show_term (have zq63 : True := trivial; omega)) (by show_term (have zq64 : True := trivial; omega)) (by show_term (have zq65 : True := trivial; omega)) hP hS (lv_sub hl [0, 3, 1, 4, 5, 6, 7] rfl)
          · refine lv_iconst (v := iZ 1) hx hb dX10_orders_205 rfl ?_
            refine lv_goto (tgt := 210) hx hb dX10_orders_206 (by decide) ?_
            refine lv_iadd hx hb dX10_orders_210 ?_
            refine lv_topi (fun x9 ex9 => ?_)
            obtain rfl : x9 = iZ (di + 1) := ex9.trans (iZ_add _ _)
            refine lv_istore (lv' := [(4, .int (iZ (di + 1))), (7, .int (iZ (fs_3))), (6, .int (iZ (i))), (5, .int (iZ (0))), (3, .int (iZ (le8_3))), (2, .int (iZ (cnt))), (1, .int (iZ (wh))), (0, .ref h0)]) hx hb dX10_orders_211 hl (by decide) rfl (fun ls hl => ?_)
            refine lv_iinc (v := iZ (i + 1)) (lv' := [(6, .int (iZ (i + 1))), (4, .int (iZ (di + 1))), (7, .int (iZ (fs_3))), (5, .int (iZ (0))), (3, .int (iZ (le8_3))), (2, .int (iZ (cnt))), (1, .int (iZ (wh))), (0, .ref h0)]) hx hb dX10_orders_213 hl (k := 2) rfl (iZ_add _ _) (by decide) rfl (fun ls hl => ?_)
            refine lv_goto (tgt := 123) hx hb dX10_orders_216 (by decide) ?_
            exact ih (i + 1) (le8_3) (di + 1) μ3_ H locs ls (by rfl) (by show_term (have zq66 : True := trivial; omega)) (by show_term (have zq67 : True := trivial; omega)) (by show_term (have zq68 : True := trivial; omega)) (by show_term (have zq69 : True := trivial; omega)) hP hS (lv_sub hl [0, 3, 1, 4, 5, 6, 7] rfl)
      · refine lv_iload hx hb dX10_orders_145 (lv_at hl 0 rfl) ?_
        refine lv_goto (tgt := 151) hx hb dX10_orders_147 (by decide) ?_
        refine lv_istore_n (lv' := [(3, .int (iZ (i))), (6, .int (iZ (i))), (5, .int (iZ (0))), (4, .int (iZ (di))), (2, .int (iZ (cnt))), (1, .int (iZ (wh))), (0, .ref h0)]) hx hb dX10_orders_151 rfl hl (by decide) rfl (fun ls hl => ?_)
        refine lv_iconst (v := iZ 1) hx hb dX10_orders_152 rfl ?_
        refine lv_istore (lv' := [(7, .int (iZ (1))), (3, .int (iZ (i))), (6, .int (iZ (i))), (5, .int (iZ (0))), (4, .int (iZ (di))), (2, .int (iZ (cnt))), (1, .int (iZ (wh))), (0, .ref h0)]) hx hb dX10_orders_153 hl (by decide) rfl (fun ls hl => ?_)
        refine lv_iconst (v := iZ 0) hx hb dX10_orders_155 rfl ?_
        refine lv_istore (lv' := [(8, .int (iZ (0))), (7, .int (iZ (1))), (3, .int (iZ (i))), (6, .int (iZ (i))), (5, .int (iZ (0))), (4, .int (iZ (di))), (2, .int (iZ (cnt))), (1, .int (iZ (wh))), (0, .ref h0)]) hx hb dX10_orders_156 hl (by decide) rfl (fun ls hl => ?_)
        refine LX10_orders_158 hx hb hml hown hts hK hRf hRl hRc hRs (μ) (wh) (cnt) (i) (di) (by exact hcn) (by exact htr) (by show_term (have zq70 : True := trivial; omega)) ?_ _ (0) (1) (i) μ H locs ls (by rfl) (by show_term (have zq71 : True := trivial; omega)) (by exact Or.inr rfl) (by show_term (have zq72 : True := trivial; omega)) (Nat.lt_succ_self _) hP hS (lv_sub hl [0, 1, 3, 4, 5, 2, 6, 7, 8] rfl)
        · intro j_4 fs_4 le8_4 μ4_ H locs ls q7_4 q8_4 q9_4 hP hS hl
          have hl : lv_has ls 9 [(7, .int (iZ (fs_4))), (6, .int (iZ (i))), (5, .int (iZ (0))), (4, .int (iZ (di))), (3, .int (iZ (le8_4))), (2, .int (iZ (cnt))), (1, .int (iZ (wh))), (0, .ref h0)] := hl
          have hPn198 := hP
          obtain rfl := q7_4
          have hP := hPn198
          have q8_ := q8_4
          have q9_ := q9_4
          refine lv_iload hx hb dX10_orders_198 (lv_at hl 3 rfl) ?_
          refine lv_iload hx hb dX10_orders_200 (lv_at hl 0 rfl) ?_
          refine fz_if_eq (tgt := 209) (by constructor <;> show_term (have zq73 : True := trivial; omega)) hx hb dX10_orders_202 (by decide) (fun c202_ => ?_) (fun c202_ => ?_)
          · refine lv_iconst (v := iZ 0) hx hb dX10_orders_209 rfl ?_
            refine lv_iadd hx hb dX10_orders_210 ?_
            refine lv_topi (fun x9 ex9 => ?_)
            obtain rfl : x9 = iZ (di + 0) := ex9.trans (iZ_add _ _)
            refine lv_istore (lv' := [(4, .int (iZ (di + 0))), (7, .int (iZ (fs_4))), (6, .int (iZ (i))), (5, .int (iZ (0))), (3, .int (iZ (le8_4))), (2, .int (iZ (cnt))), (1, .int (iZ (wh))), (0, .ref h0)]) hx hb dX10_orders_211 hl (by decide) rfl (fun ls hl => ?_)
            refine lv_iinc (v := iZ (i + 1)) (lv' := [(6, .int (iZ (i + 1))), (4, .int (iZ (di + 0))), (7, .int (iZ (fs_4))), (5, .int (iZ (0))), (3, .int (iZ (le8_4))), (2, .int (iZ (cnt))), (1, .int (iZ (wh))), (0, .ref h0)]) hx hb dX10_orders_213 hl (k := 2) rfl (iZ_add _ _) (by decide) rfl (fun ls hl => ?_)
            refine lv_goto (tgt := 123) hx hb dX10_orders_216 (by decide) ?_
            exact ih (i + 1) (le8_4) (di + 0) μ4_ H locs ls (by rfl) (by show_term (have zq74 : True := trivial; omega)) (by show_term (have zq75 : True := trivial; omega)) (by show_term (have zq76 : True := trivial; omega)) (by show_term (have zq77 : True := trivial; omega)) hP hS (lv_sub hl [0, 3, 1, 4, 5, 6, 7] rfl)
          · refine lv_iconst (v := iZ 1) hx hb dX10_orders_205 rfl ?_
            refine lv_goto (tgt := 210) hx hb dX10_orders_206 (by decide) ?_
            refine lv_iadd hx hb dX10_orders_210 ?_
            refine lv_topi (fun x9 ex9 => ?_)
            obtain rfl : x9 = iZ (di + 1) := ex9.trans (iZ_add _ _)
            refine lv_istore (lv' := [(4, .int (iZ (di + 1))), (7, .int (iZ (fs_4))), (6, .int (iZ (i))), (5, .int (iZ (0))), (3, .int (iZ (le8_4))), (2, .int (iZ (cnt))), (1, .int (iZ (wh))), (0, .ref h0)]) hx hb dX10_orders_211 hl (by decide) rfl (fun ls hl => ?_)
            refine lv_iinc (v := iZ (i + 1)) (lv' := [(6, .int (iZ (i + 1))), (4, .int (iZ (di + 1))), (7, .int (iZ (fs_4))), (5, .int (iZ (0))), (3, .int (iZ (le8_4))), (2, .int (iZ (cnt))), (1, .int (iZ (wh))), (0, .ref h0)]) hx hb dX10_orders_213 hl (k := 2) rfl (iZ_add _ _) (by decide) rfl (fun ls hl => ?_)
            refine lv_goto (tgt := 123) hx hb dX10_orders_216 (by decide) ?_
            exact ih (i + 1) (le8_4) (di + 1) μ4_ H locs ls (by rfl) (by show_term (have zq78 : True := trivial; omega)) (by show_term (have zq79 : True := trivial; omega)) (by show_term (have zq80 : True := trivial; omega)) (by show_term (have zq81 : True := trivial; omega)) hP hS (lv_sub hl [0, 3, 1, 4, 5, 6, 7] rfl)
set_option maxHeartbeats 4000000 in
set_option maxRecDepth 100000 in
theorem LX10_orders_222 {p : Program} {l : Launch} {e : Env} {R : Room} {s : State} {m : MethodId} {args : Array Value} {below : List Frame} {meth : Method} {c : Code} {cells slots : Nat} {Q : State → Prop} {dC : Nat → ClassId} {dI : Nat → Nat → Nat} {h0 : Nat} {cI cZ cII cIII : ClassId} (hx : p.tables.exec = Jvm.exec) (hb : c.code = cX10_orders) (hml : c.maxLocals = 9) (hown : s.vm.findClass RX10 = some m.cls) (hts : ∀ w ∈ wsG, w.before args s = true) (hK : va_K (dC, dI) vwCl (mT cI cZ cII cIII) s) (hRf : 70 ≤ R.frames) (hRl : 2378 ≤ R.locals) (hRc : cells ≤ R.cells) (hRs : slots ≤ R.slots) (μ0 : va_M) (wh : Int) (cnt : Int) (le9 : Int) (di : Int) (hcn : 1 ≤ cnt ∧ cnt ≤ 24) (htr : ∀ j : Nat, (j : Int) < cnt → tr9 μ0 j) (hl9 : 0 ≤ le9 ∧ le9 < cnt) (hexit260 : ∀ (i : Int) (ti : Int) (μ : va_M) (H : Heap) (locs : List Loc) (ls : Array Slot), (μ = μ0) → (0 ≤ ti ∧ ti ≤ 24) → va_P (dC, dI) vwCl (fw (mE cI cZ cII cIII h0) h0 6325 μ) H → va_S (fA h0 6325 s.heap.size) s.heap H locs → lv_has ls 9 [(5, .int (iZ (ti))), (4, .int (iZ (di))), (3, .int (iZ (le9))), (2, .int (iZ (cnt))), (1, .int (iZ (wh))), (0, .ref h0)] → W p l e R s m args below meth c H locs cells slots Q (F0 m 260 ls [])) :
    ∀ (n9 : Nat) (i : Int) (ti : Int) (μ : va_M) (H : Heap) (locs : List Loc) (ls : Array Slot), (μ = μ0) → (0 ≤ i ∧ i ≤ cnt) → (0 ≤ ti ∧ ti ≤ i) → (30 - i).toNat < n9 → va_P (dC, dI) vwCl (fw (mE cI cZ cII cIII h0) h0 6325 μ) H → va_S (fA h0 6325 s.heap.size) s.heap H locs → lv_has ls 9 [(6, .int (iZ (i))), (5, .int (iZ (ti))), (4, .int (iZ (di))), (3, .int (iZ (le9))), (2, .int (iZ (cnt))), (1, .int (iZ (wh))), (0, .ref h0)] → W p l e R s m args below meth c H locs cells slots Q (F0 m 222 ls []) := by
  intro n9
  induction n9 with
  | zero => intro i ti μ H locs ls hm9_ hi ht9 hm9 hP hS hl; exact absurd hm9 (Nat.not_lt_zero _)
  | succ n9 ih =>
    intro i ti μ H locs ls hm9_ hi ht9 hm9 hP hS hl
    subst hm9_
    refine lv_iload hx hb dX10_orders_222 (lv_at hl 0 rfl) ?_
    refine lv_iload_n hx hb dX10_orders_224 rfl (lv_at hl 4 rfl) ?_
    refine fz_icmp_ge (tgt := 260) (by constructor <;> show_term (have zq82 : True := trivial; omega)) (by constructor <;> show_term (have zq83 : True := trivial; omega)) hx hb dX10_orders_225 (by decide) (fun c225_ => ?_) (fun c225_ => ?_)
    · exact hexit260 (i) (ti) μ H locs ls (by rfl) (by show_term (have zq84 : True := trivial; omega)) hP hS (lv_sub hl [1, 2, 3, 4, 5, 6] rfl)
    · refine lv_iload hx hb dX10_orders_228 (lv_at hl 1 rfl) ?_
      refine lv_aload_n hx hb dX10_orders_230 rfl (lv_at hl 6 rfl) ?_
      refine lv_bipush (v := iZ 25) hx hb dX10_orders_231 rfl ?_
      refine lv_iload hx hb dX10_orders_233 (lv_at hl 0 rfl) ?_
      refine lv_iadd hx hb dX10_orders_235 ?_
      refine lv_topi (fun x9 ex9 => ?_)
      obtain rfl : x9 = iZ (25 + i) := ex9.trans (iZ_add _ _)
      refine lv_bipush (v := iZ 25) hx hb dX10_orders_236 rfl ?_
      refine lv_iload_n hx hb dX10_orders_238 rfl (lv_at hl 3 rfl) ?_
      refine lv_iadd hx hb dX10_orders_239 ?_
      refine lv_topi (fun x9 ex9 => ?_)
      obtain rfl : x9 = iZ (25 + le9) := ex9.trans (iZ_add _ _)
      refine va_calli (va_runV (As := [.int (iZ (25 + i)), .int (iZ (25 + le9))]) (rest := [.int (iZ (ti))]) ⟨hx, hb, hml, hown, hts⟩ (m_areSame l dC dI cI cZ cII cIII h0 H.size μ (25 + i) (25 + le9) (by show_term (have zq85 : True := trivial; omega)) (by show_term (have zq86 : True := trivial; omega)) (by rw [show (25 + i).toNat = 25 + (i).toNat by show_term (have zq87 : True := trivial; omega)]; exact tr9_tok (htr (i).toNat (by show_term (have zq88 : True := trivial; omega)))) (by rw [show (25 + le9).toNat = 25 + (le9).toNat by show_term (have zq89 : True := trivial; omega)]; exact tr9_tok (htr (le9).toNat (by show_term (have zq90 : True := trivial; omega))))) (cwV 2 hts (gV_G k1719 k1721 ks_yX10_areSame k13 k1722) rfl rfl rfl (by decide +kernel) ⟨by show 1 + 1 ≤ _; show_term (have zq91 : True := trivial; omega), by show 8 + (4 + 11) + (14) ≤ _; show_term (have zq92 : True := trivial; omega)⟩) ⟨fun a U g mk q => by obtain ⟨q0, q1, qP, qK⟩ := q; exact ⟨q0, q1, qP, va_K.moved (u := U) (U := U.calling g mk a) (Vm.Alike.refl U.vm) qK⟩, va_recv hK hP (ci := 10) (q0 := 0) rfl ((fw_get (by decide)).trans (by rw [mE_obj]; rfl)), fun U hU hW => ⟨rfl, by rw [hU], by rw [hU]; exact hP, va_K.moved hW.alike hK⟩⟩ rfl rfl hl.1 rfl (lv_room (Nat.le_of_ble_eq_true rfl)) dX10_orders_240 ⟨hRc, hRs⟩) hS (fun q _ h => fA_le hS.1 q h) (fA_le hS.1) (fun r9 u9 t9 H1 locs ht9 hvm9 hw9 hB9 hz9 hk9 hS => ?_)
      obtain ⟨μq, rq⟩ := u9
      obtain ⟨hP, -⟩ := hB9
      rw [ht9] at hP
      generalize H1 = H at hP hS ⊢
      obtain ⟨e9, hw9⟩ := hw9
      have e9 : r9 = iZ rq := e9
      subst e9
      simp only at hP hw9
      have hμq := hw9; clear hw9
      rw [hμq.1] at hP; have hμq := hμq.2
      have hrq := hμq
      refine fz_if_eq (tgt := 250) (by constructor <;> show_term (have zq93 : True := trivial; omega)) hx hb dX10_orders_243 (by decide) (fun c243_ => ?_) (fun c243_ => ?_)
      · refine lv_iconst (v := iZ 0) hx hb dX10_orders_250 rfl ?_
        refine lv_iadd hx hb dX10_orders_251 ?_
        refine lv_topi (fun x9 ex9 => ?_)
        obtain rfl : x9 = iZ (ti + 0) := ex9.trans (iZ_add _ _)
        refine lv_istore (lv' := [(5, .int (iZ (ti + 0))), (6, .int (iZ (i))), (4, .int (iZ (di))), (3, .int (iZ (le9))), (2, .int (iZ (cnt))), (1, .int (iZ (wh))), (0, .ref h0)]) hx hb dX10_orders_252 hl (by decide) rfl (fun ls hl => ?_)
        refine lv_iinc (v := iZ (i + 1)) (lv' := [(6, .int (iZ (i + 1))), (5, .int (iZ (ti + 0))), (4, .int (iZ (di))), (3, .int (iZ (le9))), (2, .int (iZ (cnt))), (1, .int (iZ (wh))), (0, .ref h0)]) hx hb dX10_orders_254 hl (k := 1) rfl (iZ_add _ _) (by decide) rfl (fun ls hl => ?_)
        refine lv_goto (tgt := 222) hx hb dX10_orders_257 (by decide) ?_
        exact ih (i + 1) (ti + 0) μ H locs ls (by rfl) (by show_term (have zq94 : True := trivial; omega)) (by show_term (have zq95 : True := trivial; omega)) (by show_term (have zq96 : True := trivial; omega)) hP hS (lv_sub hl [0, 1, 2, 3, 4, 5, 6] rfl)
      · refine lv_iconst (v := iZ 1) hx hb dX10_orders_246 rfl ?_
        refine lv_goto (tgt := 251) hx hb dX10_orders_247 (by decide) ?_
        refine lv_iadd hx hb dX10_orders_251 ?_
        refine lv_topi (fun x9 ex9 => ?_)
        obtain rfl : x9 = iZ (ti + 1) := ex9.trans (iZ_add _ _)
        refine lv_istore (lv' := [(5, .int (iZ (ti + 1))), (6, .int (iZ (i))), (4, .int (iZ (di))), (3, .int (iZ (le9))), (2, .int (iZ (cnt))), (1, .int (iZ (wh))), (0, .ref h0)]) hx hb dX10_orders_252 hl (by decide) rfl (fun ls hl => ?_)
        refine lv_iinc (v := iZ (i + 1)) (lv' := [(6, .int (iZ (i + 1))), (5, .int (iZ (ti + 1))), (4, .int (iZ (di))), (3, .int (iZ (le9))), (2, .int (iZ (cnt))), (1, .int (iZ (wh))), (0, .ref h0)]) hx hb dX10_orders_254 hl (k := 1) rfl (iZ_add _ _) (by decide) rfl (fun ls hl => ?_)
        refine lv_goto (tgt := 222) hx hb dX10_orders_257 (by decide) ?_
        exact ih (i + 1) (ti + 1) μ H locs ls (by rfl) (by show_term (have zq97 : True := trivial; omega)) (by show_term (have zq98 : True := trivial; omega)) (by show_term (have zq99 : True := trivial; omega)) hP hS (lv_sub hl [0, 1, 2, 3, 4, 5, 6] rfl)
set_option maxHeartbeats 4000000 in
set_option maxRecDepth 100000 in
theorem m_orders (l : Launch) (dC : Nat → ClassId) (dI : Nat → Nat → Nat) (cI cZ cII cIII : ClassId) (h0 sz : Nat) (μ : va_M) (wh : Int) (J : Rw → Prop) (hR : RI J μ) (hJK : JOK J) (hp : inR wh) : Met l yX10_orders (Cond.code yX10_orders cX10_orders 9 (some .int) :: wsG) ({ frames := 70, cells := 0, slots := 0, locals := 2378 } : Room) (va_Pc [.ref h0, .int (iZ (wh))] (fun U => U.heap.size = sz ∧ va_P (dC, dI) vwCl (fw (mE cI cZ cII cIII h0) h0 6325 μ) U.heap ∧ va_K (dC, dI) vwCl (mT cI cZ cII cIII) U)) (va_Qi (fun (r9 : Int32) (u : va_M × Int) => r9 = iZ u.2 ∧ (fun (u : va_M) (r : Int) => fr PS μ u ∧ (u 0 0 = 0 ∨ u 0 0 = 1 ∨ u 0 0 = 2)) u.1 u.2) (fun u t => va_P (dC, dI) vwCl (fw (mE cI cZ cII cIII h0) h0 6325 u.1) t.heap ∧ va_K (dC, dI) vwCl (mT cI cZ cII cIII) t) (fA h0 6325 sz)) 0 0 (fA h0 6325 sz) := by
  refine Met.ofW (cc := cX10_orders) (maxL := 9) (ret := (some .int)) (by decide) rfl ?_
  intro p e s m args below meth c s₁ B hml hv
  obtain ⟨rfl, hsz, hP, hK⟩ := hv
  have hx := B.exec
  have hb := B.bytes
  have hr := B.returns
  have hts : ∀ w ∈ wsG, w.before _ s = true := hG_of (atoms_spec (ws := (Cond.code yX10_orders cX10_orders 9 (some .int) :: wsG)) B.pre)
  have hown : s.vm.findClass RX10 = some m.cls := findClass_of_methodNamed B.named
  have hlocks := B.notSynchronized
  subst hsz
  have hS : va_S (fA h0 6325 s.heap.size) s.heap s.heap [] := va_S.rf
  have hl := lv_entry ([.ref h0, .int (iZ (wh))]) (n := 9) (Nat.le_of_ble_eq_true rfl)
  rw [lg_entry_eq]
  generalize (lg_sl ([.ref h0, .int (iZ (wh))]) ++ List.replicate (9 - (lg_sl ([.ref h0, .int (iZ (wh))])).length) Slot.unset).toArray = ls at hl ⊢
  have hl : lv_has ls 9 [(0, .ref h0), (1, .int (iZ (wh)))] := hl
  have hQ := hR.1
  refine lv_aload_n hx hb dX10_orders_0 rfl (lv_at hl 0 rfl) ?_
  refine lv_iconst (v := iZ 0) hx hb dX10_orders_1 rfl ?_
  refine fz_put (D := (dC, dI)) (ci := 10) (ty := .int) (z := 0) (C := RX10) (T := TX10) (N := 53) hx hb hts inG10 tyX10 tyX10_ok nmX10 hown hK hP fA_in hS (k := 0) (by decide) (F := mF h0) mE_obj rfl 0 (by decide) (hts _ k1166) (fun _ h9 => h9) rfl (by decide +kernel) rfl rfl (fun _ => Nat.le_of_ble_eq_true rfl) (fun _ _ => rfl) dX10_orders_2 (fun H locs hP hS => ?_)
  obtain ⟨μ5, eμ5⟩ : ∃ x : va_M, x = uz μ 0 0 (0) := ⟨_, rfl⟩
  rw [← eμ5] at hP
  have hfr : fr PS μ μ5 := by rw [eμ5]; exact fr_uz fr_rfl (by unfold PS; show_term (have zq100 : True := trivial; omega))
  have ht0 : μ5 0 0 = 0 := by rw [eμ5, uz_s]
  have e10 := hfr 0 10 (PS_n (by show_term (have zq101 : True := trivial; omega)))
  have e9 := hfr 0 9 (PS_n (by show_term (have zq102 : True := trivial; omega)))
  have e71 := hfr 719 0 (PS_n (by show_term (have zq103 : True := trivial; omega)))
  have hQ1 := RQ_fr hQ hfr
  have hQc := hQ
  obtain ⟨f10, ⟨fT, fTb, fTw⟩, fS3, fPg, fw9, fwB, fwT⟩ := hQc
  obtain ⟨g10, ⟨gT, gTb, gTw⟩, gS3, gPg, gw, gwB, gwT⟩ := hQ1
  have gtk := TR_tok gwT gwB.1 gwB.2.1
  have gt1 := gtk.1
  have gt2 := gtk.2.1
  refine lv_aload_n hx hb dX10_orders_5 rfl (lv_at hl 0 rfl) ?_
  refine lv_iload_n hx hb dX10_orders_6 rfl (lv_at hl 1 rfl) ?_
  refine lv_iconst (v := iZ 0) hx hb dX10_orders_7 rfl ?_
  refine lv_iconst (v := iZ 3) hx hb dX10_orders_8 rfl ?_
  refine va_calli (va_runS (As := [.int (iZ (wh)), .int (iZ (0)), .int (iZ (3))]) (rest := [.ref h0]) ⟨hx, hb, hml, hown, hts⟩ (m_in l dC dI cI cZ cII cIII h0 H.size μ5 (wh) (0) (3) (by first | assumption | show_term (have zq104 : True := trivial; omega) | exact ⟨by show_term (have zq105 : True := trivial; omega), by show_term (have zq106 : True := trivial; omega)⟩) (by first | assumption | show_term (have zq107 : True := trivial; omega) | exact ⟨by show_term (have zq108 : True := trivial; omega), by show_term (have zq109 : True := trivial; omega)⟩) (by first | assumption | show_term (have zq110 : True := trivial; omega) | exact ⟨by show_term (have zq111 : True := trivial; omega), by show_term (have zq112 : True := trivial; omega)⟩)) (cwS 3 hts (gS_G k1335 k1336 k13 k1337) rfl rfl rfl (by decide +kernel) ⟨Nat.le_of_ble_eq_true rfl, Nat.le_of_ble_eq_true rfl⟩) ⟨fun a U g mk q => by obtain ⟨q0, q1, qP, qK⟩ := q; exact ⟨q0, q1, qP, va_K.moved (u := U) (U := U.calling g mk a) (Vm.Alike.refl U.vm) qK⟩, fun U hU hW => ⟨rfl, by rw [hU], by rw [hU]; exact hP, va_K.moved hW.alike hK⟩⟩ rfl rfl hl.1 rfl (lv_room (Nat.le_of_ble_eq_true rfl)) dX10_orders_9 ⟨Nat.le_of_ble_eq_true rfl, Nat.le_of_ble_eq_true rfl⟩) hS (fun q _ h => fA_le hS.1 q h) (fA_le hS.1) (fun r9 u9 t9 H1 locs ht9 hvm9 hw9 hB9 hz9 hk9 hS => ?_)
  obtain ⟨μ6, r7⟩ := u9
  obtain ⟨hP, -⟩ := hB9
  rw [ht9] at hP
  generalize H1 = H at hP hS ⊢
  obtain ⟨e9, hw9⟩ := hw9
  have e9 : r9 = iZ r7 := e9
  subst e9
  simp only at hP hw9
  have hμ6 := hw9; clear hw9
  rw [hμ6.1] at hP; have hμ6 := hμ6.2
  have hwh := hμ6
  have hwh2 := if_01 hμ6
  refine fz_if_ne (tgt := 19) (by constructor <;> show_term (have zq113 : True := trivial; omega)) hx hb dX10_orders_12 (by decide) (fun c12_ => ?_) (fun c12_ => ?_)
  · refine lv_iconst (v := iZ 0) hx hb dX10_orders_19 rfl ?_
    refine lv_iconst (v := iZ 1) hx hb dX10_orders_20 rfl ?_
    refine lv_iconst (v := iZ 1) hx hb dX10_orders_21 rfl ?_
    refine va_calli (va_runV (As := [.int (iZ (0)), .int (iZ (1)), .int (iZ (1))]) (rest := []) ⟨hx, hb, hml, hown, hts⟩ (m_bad2 l dC dI cI cZ cII cIII h0 H.size μ5 (0) (1) (1) (by first | assumption | show_term (have zq114 : True := trivial; omega) | exact ⟨by show_term (have zq115 : True := trivial; omega), by show_term (have zq116 : True := trivial; omega)⟩) (by first | assumption | show_term (have zq117 : True := trivial; omega) | exact ⟨by show_term (have zq118 : True := trivial; omega), by show_term (have zq119 : True := trivial; omega)⟩) (by first | assumption | show_term (have zq120 : True := trivial; omega) | exact ⟨by show_term (have zq121 : True := trivial; omega), by show_term (have zq122 : True := trivial; omega)⟩) (by first | assumption | show_term (have zq123 : True := trivial; omega) | exact ⟨by show_term (have zq124 : True := trivial; omega), by show_term (have zq125 : True := trivial; omega)⟩)) (cwV 3 hts (gV_G k1338 k1340 ks_yX10_bad k13 k1341) rfl rfl rfl (by decide +kernel) ⟨Nat.le_of_ble_eq_true rfl, Nat.le_of_ble_eq_true rfl⟩) ⟨fun a U g mk q => by obtain ⟨q0, q1, qP, qK⟩ := q; exact ⟨q0, q1, qP, va_K.moved (u := U) (U := U.calling g mk a) (Vm.Alike.refl U.vm) qK⟩, va_recv hK hP (ci := 10) (q0 := 0) rfl ((fw_get (by decide)).trans (by rw [mE_obj]; rfl)), fun U hU hW => ⟨rfl, by rw [hU], by rw [hU]; exact hP, va_K.moved hW.alike hK⟩⟩ rfl rfl hl.1 rfl (lv_room (Nat.le_of_ble_eq_true rfl)) dX10_orders_22 ⟨Nat.le_of_ble_eq_true rfl, Nat.le_of_ble_eq_true rfl⟩) hS (fun q _ h => fA_le hS.1 q h) (fA_le hS.1) (fun r9 u9 t9 H1 locs ht9 hvm9 hw9 hB9 hz9 hk9 hS => ?_)
    obtain ⟨μ8, r10⟩ := u9
    obtain ⟨hP, -⟩ := hB9
    rw [ht9] at hP
    generalize H1 = H at hP hS ⊢
    obtain ⟨e9, hw9⟩ := hw9
    have e9 : r9 = iZ r10 := e9
    subst e9
    simp only at hP hw9
    have hμ8 := hw9; clear hw9
    have hfr := fr_trans hfr (badP_fr hμ8)
    have hrb := badP_r hμ8
    obtain rfl : r10 = 0 := by show_term (have zq126 : True := trivial; omega)
    refine fz_if_ne (tgt := 54) (by decide) hx hb dX10_orders_25 (by decide) (fun h9 => absurd h9 (by decide)) (fun c25_ => ?_)
    have e10b := hfr 0 10 (PS_n (by show_term (have zq127 : True := trivial; omega)))
    refine lv_aload_n hx hb dX10_orders_28 rfl (lv_at hl 0 rfl) ?_
    refine lv_aload_n hx hb dX10_orders_29 rfl (lv_at hl 0 rfl) ?_
    refine fz_get (D := (dC, dI)) (ci := 10) (v := .int (iZ (μ8 0 10))) (C := RX10) (T := TX10) (N := 53) hx hb hts inG10 hown hK hP (k := 0) (by decide) (F := mF h0) mE_obj rfl 10 (by decide) (hts _ k1176) (fun _ h9 => h9) rfl dX10_orders_30 ?_
    refine lv_iconst (v := iZ 1) hx hb dX10_orders_33 rfl ?_
    refine lv_iconst (v := iZ 4) hx hb dX10_orders_34 rfl ?_
    refine va_calli (va_runS (As := [.int (iZ (μ8 0 10)), .int (iZ (1)), .int (iZ (4))]) (rest := [.ref h0]) ⟨hx, hb, hml, hown, hts⟩ (m_in l dC dI cI cZ cII cIII h0 H.size μ8 (μ8 0 10) (1) (4) (by first | assumption | show_term (have zq128 : True := trivial; omega) | exact ⟨by show_term (have zq129 : True := trivial; omega), by show_term (have zq130 : True := trivial; omega)⟩) (by first | assumption | show_term (have zq131 : True := trivial; omega) | exact ⟨by show_term (have zq132 : True := trivial; omega), by show_term (have zq133 : True := trivial; omega)⟩) (by first | assumption | show_term (have zq134 : True := trivial; omega) | exact ⟨by show_term (have zq135 : True := trivial; omega), by show_term (have zq136 : True := trivial; omega)⟩)) (cwS 3 hts (gS_G k1335 k1336 k13 k1337) rfl rfl rfl (by decide +kernel) ⟨Nat.le_of_ble_eq_true rfl, Nat.le_of_ble_eq_true rfl⟩) ⟨fun a U g mk q => by obtain ⟨q0, q1, qP, qK⟩ := q; exact ⟨q0, q1, qP, va_K.moved (u := U) (U := U.calling g mk a) (Vm.Alike.refl U.vm) qK⟩, fun U hU hW => ⟨rfl, by rw [hU], by rw [hU]; exact hP, va_K.moved hW.alike hK⟩⟩ rfl rfl hl.1 rfl (lv_room (Nat.le_of_ble_eq_true rfl)) dX10_orders_35 ⟨Nat.le_of_ble_eq_true rfl, Nat.le_of_ble_eq_true rfl⟩) hS (fun q _ h => fA_le hS.1 q h) (fA_le hS.1) (fun r9 u9 t9 H1 locs ht9 hvm9 hw9 hB9 hz9 hk9 hS => ?_)
    obtain ⟨μ11, r12⟩ := u9
    obtain ⟨hP, -⟩ := hB9
    rw [ht9] at hP
    generalize H1 = H at hP hS ⊢
    obtain ⟨e9, hw9⟩ := hw9
    have e9 : r9 = iZ r12 := e9
    subst e9
    simp only at hP hw9
    have hμ11 := hw9; clear hw9
    rw [hμ11.1] at hP; have hμ11 := hμ11.2
    have hnn := hμ11
    have hnn2 := if_01 hμ11
    refine fz_if_ne (tgt := 45) (by constructor <;> show_term (have zq137 : True := trivial; omega)) hx hb dX10_orders_38 (by decide) (fun c38_ => ?_) (fun c38_ => ?_)
    · refine lv_iconst (v := iZ 0) hx hb dX10_orders_45 rfl ?_
      refine lv_iconst (v := iZ 2) hx hb dX10_orders_46 rfl ?_
      refine lv_iconst (v := iZ 2) hx hb dX10_orders_47 rfl ?_
      refine va_calli (va_runV (As := [.int (iZ (0)), .int (iZ (2)), .int (iZ (2))]) (rest := []) ⟨hx, hb, hml, hown, hts⟩ (m_bad2 l dC dI cI cZ cII cIII h0 H.size μ8 (0) (2) (2) (by first | assumption | show_term (have zq138 : True := trivial; omega) | exact ⟨by show_term (have zq139 : True := trivial; omega), by show_term (have zq140 : True := trivial; omega)⟩) (by first | assumption | show_term (have zq141 : True := trivial; omega) | exact ⟨by show_term (have zq142 : True := trivial; omega), by show_term (have zq143 : True := trivial; omega)⟩) (by first | assumption | show_term (have zq144 : True := trivial; omega) | exact ⟨by show_term (have zq145 : True := trivial; omega), by show_term (have zq146 : True := trivial; omega)⟩) (by first | assumption | show_term (have zq147 : True := trivial; omega) | exact ⟨by show_term (have zq148 : True := trivial; omega), by show_term (have zq149 : True := trivial; omega)⟩)) (cwV 3 hts (gV_G k1338 k1340 ks_yX10_bad k13 k1341) rfl rfl rfl (by decide +kernel) ⟨Nat.le_of_ble_eq_true rfl, Nat.le_of_ble_eq_true rfl⟩) ⟨fun a U g mk q => by obtain ⟨q0, q1, qP, qK⟩ := q; exact ⟨q0, q1, qP, va_K.moved (u := U) (U := U.calling g mk a) (Vm.Alike.refl U.vm) qK⟩, va_recv hK hP (ci := 10) (q0 := 0) rfl ((fw_get (by decide)).trans (by rw [mE_obj]; rfl)), fun U hU hW => ⟨rfl, by rw [hU], by rw [hU]; exact hP, va_K.moved hW.alike hK⟩⟩ rfl rfl hl.1 rfl (lv_room (Nat.le_of_ble_eq_true rfl)) dX10_orders_48 ⟨Nat.le_of_ble_eq_true rfl, Nat.le_of_ble_eq_true rfl⟩) hS (fun q _ h => fA_le hS.1 q h) (fA_le hS.1) (fun r9 u9 t9 H1 locs ht9 hvm9 hw9 hB9 hz9 hk9 hS => ?_)
      obtain ⟨μ13, r14⟩ := u9
      obtain ⟨hP, -⟩ := hB9
      rw [ht9] at hP
      generalize H1 = H at hP hS ⊢
      obtain ⟨e9, hw9⟩ := hw9
      have e9 : r9 = iZ r14 := e9
      subst e9
      simp only at hP hw9
      have hμ13 := hw9; clear hw9
      have hfr := fr_trans hfr (badP_fr hμ13)
      have hrb := badP_r hμ13
      obtain rfl : r14 = 0 := by show_term (have zq150 : True := trivial; omega)
      refine fz_if_eq (tgt := 56) (by decide) hx hb dX10_orders_51 (by decide) (fun c51_ => ?_) (fun h9 => absurd h9 (by decide))
      have hQ2 := RQ_fr hQ hfr
      obtain ⟨k10, ⟨kT, kTb, kTw⟩, kS3, kPg, kw, kwB, kwT⟩ := hQ2
      have e10k := hfr 0 10 (PS_n (by show_term (have zq151 : True := trivial; omega)))
      have e9k := hfr 0 9 (PS_n (by show_term (have zq152 : True := trivial; omega)))
      have e71k := hfr 719 0 (PS_n (by show_term (have zq153 : True := trivial; omega)))
      have ktk := TR_tok kwT kwB.1 kwB.2.1
      have kt1 := ktk.1
      have kt2 := ktk.2.1
      have hn4 := if_get hnn (by show_term (have zq154 : True := trivial; omega))
      have hQ9 := RQ_fr hQ hfr
      refine lv_aload_n hx hb dX10_orders_56 rfl (lv_at hl 0 rfl) ?_
      refine fz_get (D := (dC, dI)) (ci := 10) (v := .int (iZ (μ13 0 10))) (C := RX10) (T := TX10) (N := 53) hx hb hts inG10 hown hK hP (k := 0) (by decide) (F := mF h0) mE_obj rfl 10 (by decide) (hts _ k1176) (fun _ h9 => h9) rfl dX10_orders_57 ?_
      refine lv_iconst (v := iZ 4) hx hb dX10_orders_60 rfl ?_
      refine fz_icmp_ne (tgt := 69) (by constructor <;> show_term (have zq155 : True := trivial; omega)) (by decide) hx hb dX10_orders_61 (by decide) (fun c61_ => ?_) (fun c61_ => ?_)
      · refine lv_aload_n hx hb dX10_orders_69 rfl (lv_at hl 0 rfl) ?_
        refine fz_get (D := (dC, dI)) (ci := 10) (v := .int (iZ (μ13 0 10))) (C := RX10) (T := TX10) (N := 53) hx hb hts inG10 hown hK hP (k := 0) (by decide) (F := mF h0) mE_obj rfl 10 (by decide) (hts _ k1176) (fun _ h9 => h9) rfl dX10_orders_70 ?_
        refine lv_iconst (v := iZ 3) hx hb dX10_orders_73 rfl ?_
        refine fz_icmp_ne (tgt := 82) (by constructor <;> show_term (have zq156 : True := trivial; omega)) (by decide) hx hb dX10_orders_74 (by decide) (fun c74_ => ?_) (fun c74_ => ?_)
        · refine lv_aload_n hx hb dX10_orders_82 rfl (lv_at hl 0 rfl) ?_
          refine fz_get (D := (dC, dI)) (ci := 10) (v := .int (iZ (μ13 0 10))) (C := RX10) (T := TX10) (N := 53) hx hb hts inG10 hown hK hP (k := 0) (by decide) (F := mF h0) mE_obj rfl 10 (by decide) (hts _ k1176) (fun _ h9 => h9) rfl dX10_orders_83 ?_
          refine lv_istore_n (lv' := [(2, .int (iZ (μ13 0 10))), (0, .ref h0), (1, .int (iZ (wh)))]) hx hb dX10_orders_86 rfl hl (by decide) rfl (fun ls hl => ?_)
          refine lv_iconst (v := iZ 0) hx hb dX10_orders_87 rfl ?_
          refine lv_istore_n (lv' := [(3, .int (iZ (0))), (2, .int (iZ (μ13 0 10))), (0, .ref h0), (1, .int (iZ (wh)))]) hx hb dX10_orders_88 rfl hl (by decide) rfl (fun ls hl => ?_)
          refine lv_iconst (v := iZ 0) hx hb dX10_orders_89 rfl ?_
          refine lv_istore (lv' := [(4, .int (iZ (0))), (3, .int (iZ (0))), (2, .int (iZ (μ13 0 10))), (0, .ref h0), (1, .int (iZ (wh)))]) hx hb dX10_orders_90 hl (by decide) rfl (fun ls hl => ?_)
          refine lv_iconst (v := iZ 0) hx hb dX10_orders_92 rfl ?_
          refine lv_istore (lv' := [(5, .int (iZ (0))), (4, .int (iZ (0))), (3, .int (iZ (0))), (2, .int (iZ (μ13 0 10))), (0, .ref h0), (1, .int (iZ (wh)))]) hx hb dX10_orders_93 hl (by decide) rfl (fun ls hl => ?_)
          refine lv_iconst (v := iZ 0) hx hb dX10_orders_95 rfl ?_
          refine lv_istore (lv' := [(6, .int (iZ (0))), (5, .int (iZ (0))), (4, .int (iZ (0))), (3, .int (iZ (0))), (2, .int (iZ (μ13 0 10))), (0, .ref h0), (1, .int (iZ (wh)))]) hx hb dX10_orders_96 hl (by decide) rfl (fun ls hl => ?_)
          refine LX10_orders_98 hx hb hml hown hts hK (Nat.le_of_ble_eq_true rfl) (Nat.le_of_ble_eq_true rfl) (Nat.le_of_ble_eq_true rfl) (Nat.le_of_ble_eq_true rfl) (μ13) (wh) (μ13 0 10) (J) (by exact hQ9) (by exact hJK) (by show_term (have zq157 : True := trivial; omega)) (by show_term (have zq158 : True := trivial; omega)) (by intro j h1 h2; unfold kOK; show_term (have zq159 : True := trivial; omega)) ?_ _ (0) μ13 H locs ls (by show_term (have zq160 : True := trivial; omega)) (by exact fr_rfl) (by intro j hj; show_term (have zq161 : True := trivial; omega)) (by intro j hj; show_term (have zq162 : True := trivial; omega)) (Nat.lt_succ_self _) hP hS (lv_sub hl [0, 1, 2, 3, 4, 6, 5] rfl)
          · intro kk_15 μ15_ H locs ls q1_15 q2_15 q3_15 hP hS hl
            have hl : lv_has ls 9 [(5, .int (iZ (0))), (4, .int (iZ (0))), (3, .int (iZ (0))), (2, .int (iZ ((μ13 0 10)))), (1, .int (iZ (wh))), (0, .ref h0)] := hl
            have G1_ := q1_15
            have G2_ := q2_15
            have G3_ := q3_15
            have hfr := fr_trans hfr (fr_mono G1_ (fun x y h => OAl_PS h))
            have g00_ := G1_ 0 0 (by unfold OAl LD; show_term (have zq163 : True := trivial; omega))
            refine lv_iconst (v := iZ 0) hx hb dX10_orders_120 rfl ?_
            refine lv_istore (lv' := [(6, .int (iZ (0))), (5, .int (iZ (0))), (4, .int (iZ (0))), (3, .int (iZ (0))), (2, .int (iZ ((μ13 0 10)))), (1, .int (iZ (wh))), (0, .ref h0)]) hx hb dX10_orders_121 hl (by decide) rfl (fun ls hl => ?_)
            refine LX10_orders_123 hx hb hml hown hts hK (Nat.le_of_ble_eq_true rfl) (Nat.le_of_ble_eq_true rfl) (Nat.le_of_ble_eq_true rfl) (Nat.le_of_ble_eq_true rfl) (μ15_) (wh) ((μ13 0 10)) (by show_term (have zq164 : True := trivial; omega)) (by exact G2_) (by exact G3_) ?_ _ (0) (0) (0) μ15_ H locs ls (by rfl) (by show_term (have zq165 : True := trivial; omega)) (by show_term (have zq166 : True := trivial; omega)) (by show_term (have zq167 : True := trivial; omega)) (Nat.lt_succ_self _) hP hS (lv_sub hl [0, 1, 2, 3, 4, 5, 6] rfl)
            · intro i_16 le9_16 di_16 μ16_ H locs ls q4_16 q5_16 q6_16 hP hS hl
              have hl : lv_has ls 9 [(5, .int (iZ (0))), (4, .int (iZ (di_16))), (3, .int (iZ (le9_16))), (2, .int (iZ (((μ13 0 10))))), (1, .int (iZ (wh))), (0, .ref h0)] := hl
              have hPn219 := hP
              obtain rfl := q4_16
              have hP := hPn219
              have q5_ := q5_16
              have q6_ := q6_16
              refine lv_iconst (v := iZ 0) hx hb dX10_orders_219 rfl ?_
              refine lv_istore (lv' := [(6, .int (iZ (0))), (5, .int (iZ (0))), (4, .int (iZ (di_16))), (3, .int (iZ (le9_16))), (2, .int (iZ (((μ13 0 10))))), (1, .int (iZ (wh))), (0, .ref h0)]) hx hb dX10_orders_220 hl (by decide) rfl (fun ls hl => ?_)
              refine LX10_orders_222 hx hb hml hown hts hK (Nat.le_of_ble_eq_true rfl) (Nat.le_of_ble_eq_true rfl) (Nat.le_of_ble_eq_true rfl) (Nat.le_of_ble_eq_true rfl) (μ16_) (wh) (((μ13 0 10))) (le9_16) (di_16) (by show_term (have zq168 : True := trivial; omega)) (by exact G2_) (by show_term (have zq169 : True := trivial; omega)) ?_ _ (0) (0) μ16_ H locs ls (by rfl) (by show_term (have zq170 : True := trivial; omega)) (by show_term (have zq171 : True := trivial; omega)) (Nat.lt_succ_self _) hP hS (lv_sub hl [0, 1, 2, 3, 4, 5, 6] rfl)
              · intro i_17 ti_17 μ17_ H locs ls q10_17 q11_17 hP hS hl
                have hl : lv_has ls 9 [(5, .int (iZ (ti_17))), (4, .int (iZ (di_16))), (3, .int (iZ (le9_16))), (2, .int (iZ ((((μ13 0 10)))))), (1, .int (iZ (wh))), (0, .ref h0)] := hl
                have hPn260 := hP
                obtain rfl := q10_17
                have hP := hPn260
                have q11_ := q11_17
                refine lv_iload_n hx hb dX10_orders_260 rfl (lv_at hl 4 rfl) ?_
                refine fz_if_ne (tgt := 269) (by constructor <;> show_term (have zq172 : True := trivial; omega)) hx hb dX10_orders_261 (by decide) (fun c261_ => ?_) (fun c261_ => ?_)
                · refine lv_iload_n hx hb dX10_orders_269 rfl (lv_at hl 4 rfl) ?_
                  refine lv_iconst (v := iZ 1) hx hb dX10_orders_270 rfl ?_
                  refine fz_icmp_ne (tgt := 283) (by constructor <;> show_term (have zq173 : True := trivial; omega)) (by decide) hx hb dX10_orders_271 (by decide) (fun c271_ => ?_) (fun c271_ => ?_)
                  · refine lv_iload_n hx hb dX10_orders_283 rfl (lv_at hl 4 rfl) ?_
                    refine lv_iconst (v := iZ 2) hx hb dX10_orders_284 rfl ?_
                    refine fz_icmp_ne (tgt := 292) (by constructor <;> show_term (have zq174 : True := trivial; omega)) (by decide) hx hb dX10_orders_285 (by decide) (fun c285_ => ?_) (fun c285_ => ?_)
                    · refine lv_iload hx hb dX10_orders_292 (lv_at hl 0 rfl) ?_
                      exact W.iret (v := iZ (ti_17)) hx hb hr (fun t9 ht9 hW9 => ⟨⟨iZ (ti_17), (μ17_, ti_17), rfl, ⟨rfl, (by
                                                    dsimp only
                                                    exact ⟨hfr, by show_term (have zq175 : True := trivial; omega)⟩)⟩, by rw [ht9]; exact hP, va_K.moved hW9.alike hK⟩, hS.F ht9⟩) hS.2.2 dX10_orders_294
                    · refine lv_iload_n hx hb dX10_orders_288 rfl (lv_at hl 2 rfl) ?_
                      refine lv_goto (tgt := 294) hx hb dX10_orders_289 (by decide) ?_
                      exact W.iret (v := iZ (le9_16)) hx hb hr (fun t9 ht9 hW9 => ⟨⟨iZ (le9_16), (μ17_, le9_16), rfl, ⟨rfl, (by
                                                    dsimp only
                                                    exact ⟨hfr, by show_term (have zq176 : True := trivial; omega)⟩)⟩, by rw [ht9]; exact hP, va_K.moved hW9.alike hK⟩, hS.F ht9⟩) hS.2.2 dX10_orders_294
                  · refine lv_aload_n hx hb dX10_orders_274 rfl (lv_at hl 5 rfl) ?_
                    refine fz_get (D := (dC, dI)) (ci := 10) (v := .ref (h0 + 6324)) (C := RX10) (T := TX10) (N := 53) hx hb hts inG10 hown hK hP (k := 0) (by decide) (F := mF h0) mE_obj rfl 52 (by decide) (hts _ k1218) (fun _ h9 => h9) rfl dX10_orders_275 ?_
                    refine lv_iload_n hx hb dX10_orders_278 rfl (lv_at hl 2 rfl) ?_
                    refine fz_ld (k := 6324) (n := 24) hx hb hK hP 0 (by decide) mE_orderCost rfl ⟨by show_term (have zq177 : True := trivial; omega), by show_term (have zq178 : True := trivial; omega)⟩ (by decide) dX10_orders_279 ?_
                    refine lv_goto (tgt := 294) hx hb dX10_orders_280 (by decide) ?_
                    exact W.iret (v := iZ (μ17_ 6324 (le9_16).toNat)) hx hb hr (fun t9 ht9 hW9 => ⟨⟨iZ (μ17_ 6324 (le9_16).toNat), (μ17_, μ17_ 6324 (le9_16).toNat), rfl, ⟨rfl, (by
                                                dsimp only
                                                exact ⟨hfr, by show_term (have zq179 : True := trivial; omega)⟩)⟩, by rw [ht9]; exact hP, va_K.moved hW9.alike hK⟩, hS.F ht9⟩) hS.2.2 dX10_orders_294
                · refine lv_iload hx hb dX10_orders_264 (lv_at hl 1 rfl) ?_
                  refine lv_goto (tgt := 294) hx hb dX10_orders_266 (by decide) ?_
                  exact W.iret (v := iZ (di_16)) hx hb hr (fun t9 ht9 hW9 => ⟨⟨iZ (di_16), (μ17_, di_16), rfl, ⟨rfl, (by
                                            dsimp only
                                            exact ⟨hfr, by show_term (have zq180 : True := trivial; omega)⟩)⟩, by rw [ht9]; exact hP, va_K.moved hW9.alike hK⟩, hS.F ht9⟩) hS.2.2 dX10_orders_294
        · refine lv_bipush (v := iZ 6) hx hb dX10_orders_77 rfl ?_
          refine lv_goto (tgt := 86) hx hb dX10_orders_79 (by decide) ?_
          refine lv_istore_n (lv' := [(2, .int (iZ (6))), (0, .ref h0), (1, .int (iZ (wh)))]) hx hb dX10_orders_86 rfl hl (by decide) rfl (fun ls hl => ?_)
          refine lv_iconst (v := iZ 0) hx hb dX10_orders_87 rfl ?_
          refine lv_istore_n (lv' := [(3, .int (iZ (0))), (2, .int (iZ (6))), (0, .ref h0), (1, .int (iZ (wh)))]) hx hb dX10_orders_88 rfl hl (by decide) rfl (fun ls hl => ?_)
          refine lv_iconst (v := iZ 0) hx hb dX10_orders_89 rfl ?_
          refine lv_istore (lv' := [(4, .int (iZ (0))), (3, .int (iZ (0))), (2, .int (iZ (6))), (0, .ref h0), (1, .int (iZ (wh)))]) hx hb dX10_orders_90 hl (by decide) rfl (fun ls hl => ?_)
          refine lv_iconst (v := iZ 0) hx hb dX10_orders_92 rfl ?_
          refine lv_istore (lv' := [(5, .int (iZ (0))), (4, .int (iZ (0))), (3, .int (iZ (0))), (2, .int (iZ (6))), (0, .ref h0), (1, .int (iZ (wh)))]) hx hb dX10_orders_93 hl (by decide) rfl (fun ls hl => ?_)
          refine lv_iconst (v := iZ 0) hx hb dX10_orders_95 rfl ?_
          refine lv_istore (lv' := [(6, .int (iZ (0))), (5, .int (iZ (0))), (4, .int (iZ (0))), (3, .int (iZ (0))), (2, .int (iZ (6))), (0, .ref h0), (1, .int (iZ (wh)))]) hx hb dX10_orders_96 hl (by decide) rfl (fun ls hl => ?_)
          refine LX10_orders_98 hx hb hml hown hts hK (Nat.le_of_ble_eq_true rfl) (Nat.le_of_ble_eq_true rfl) (Nat.le_of_ble_eq_true rfl) (Nat.le_of_ble_eq_true rfl) (μ13) (wh) (6) (J) (by exact hQ9) (by exact hJK) (by show_term (have zq181 : True := trivial; omega)) (by show_term (have zq182 : True := trivial; omega)) (by intro j h1 h2; unfold kOK; show_term (have zq183 : True := trivial; omega)) ?_ _ (0) μ13 H locs ls (by show_term (have zq184 : True := trivial; omega)) (by exact fr_rfl) (by intro j hj; show_term (have zq185 : True := trivial; omega)) (by intro j hj; show_term (have zq186 : True := trivial; omega)) (Nat.lt_succ_self _) hP hS (lv_sub hl [0, 1, 2, 3, 4, 6, 5] rfl)
          · intro kk_18 μ18_ H locs ls q1_18 q2_18 q3_18 hP hS hl
            have hl : lv_has ls 9 [(5, .int (iZ (0))), (4, .int (iZ (0))), (3, .int (iZ (0))), (2, .int (iZ (6))), (1, .int (iZ (wh))), (0, .ref h0)] := hl
            have G1_ := q1_18
            have G2_ := q2_18
            have G3_ := q3_18
            have hfr := fr_trans hfr (fr_mono G1_ (fun x y h => OAl_PS h))
            have g00_ := G1_ 0 0 (by unfold OAl LD; show_term (have zq187 : True := trivial; omega))
            refine lv_iconst (v := iZ 0) hx hb dX10_orders_120 rfl ?_
            refine lv_istore (lv' := [(6, .int (iZ (0))), (5, .int (iZ (0))), (4, .int (iZ (0))), (3, .int (iZ (0))), (2, .int (iZ (6))), (1, .int (iZ (wh))), (0, .ref h0)]) hx hb dX10_orders_121 hl (by decide) rfl (fun ls hl => ?_)
            refine LX10_orders_123 hx hb hml hown hts hK (Nat.le_of_ble_eq_true rfl) (Nat.le_of_ble_eq_true rfl) (Nat.le_of_ble_eq_true rfl) (Nat.le_of_ble_eq_true rfl) (μ18_) (wh) (6) (by show_term (have zq188 : True := trivial; omega)) (by exact G2_) (by exact G3_) ?_ _ (0) (0) (0) μ18_ H locs ls (by rfl) (by show_term (have zq189 : True := trivial; omega)) (by show_term (have zq190 : True := trivial; omega)) (by show_term (have zq191 : True := trivial; omega)) (Nat.lt_succ_self _) hP hS (lv_sub hl [0, 1, 2, 3, 4, 5, 6] rfl)
            · intro i_19 le9_19 di_19 μ19_ H locs ls q4_19 q5_19 q6_19 hP hS hl
              have hl : lv_has ls 9 [(5, .int (iZ (0))), (4, .int (iZ (di_19))), (3, .int (iZ (le9_19))), (2, .int (iZ (6))), (1, .int (iZ (wh))), (0, .ref h0)] := hl
              have hPn219 := hP
              obtain rfl := q4_19
              have hP := hPn219
              have q5_ := q5_19
              have q6_ := q6_19
              refine lv_iconst (v := iZ 0) hx hb dX10_orders_219 rfl ?_
              refine lv_istore (lv' := [(6, .int (iZ (0))), (5, .int (iZ (0))), (4, .int (iZ (di_19))), (3, .int (iZ (le9_19))), (2, .int (iZ (6))), (1, .int (iZ (wh))), (0, .ref h0)]) hx hb dX10_orders_220 hl (by decide) rfl (fun ls hl => ?_)
              refine LX10_orders_222 hx hb hml hown hts hK (Nat.le_of_ble_eq_true rfl) (Nat.le_of_ble_eq_true rfl) (Nat.le_of_ble_eq_true rfl) (Nat.le_of_ble_eq_true rfl) (μ19_) (wh) (6) (le9_19) (di_19) (by show_term (have zq192 : True := trivial; omega)) (by exact G2_) (by show_term (have zq193 : True := trivial; omega)) ?_ _ (0) (0) μ19_ H locs ls (by rfl) (by show_term (have zq194 : True := trivial; omega)) (by show_term (have zq195 : True := trivial; omega)) (Nat.lt_succ_self _) hP hS (lv_sub hl [0, 1, 2, 3, 4, 5, 6] rfl)
              · intro i_20 ti_20 μ20_ H locs ls q10_20 q11_20 hP hS hl
                have hl : lv_has ls 9 [(5, .int (iZ (ti_20))), (4, .int (iZ (di_19))), (3, .int (iZ (le9_19))), (2, .int (iZ (6))), (1, .int (iZ (wh))), (0, .ref h0)] := hl
                have hPn260 := hP
                obtain rfl := q10_20
                have hP := hPn260
                have q11_ := q11_20
                refine lv_iload_n hx hb dX10_orders_260 rfl (lv_at hl 4 rfl) ?_
                refine fz_if_ne (tgt := 269) (by constructor <;> show_term (have zq196 : True := trivial; omega)) hx hb dX10_orders_261 (by decide) (fun c261_ => ?_) (fun c261_ => ?_)
                · refine lv_iload_n hx hb dX10_orders_269 rfl (lv_at hl 4 rfl) ?_
                  refine lv_iconst (v := iZ 1) hx hb dX10_orders_270 rfl ?_
                  refine fz_icmp_ne (tgt := 283) (by constructor <;> show_term (have zq197 : True := trivial; omega)) (by decide) hx hb dX10_orders_271 (by decide) (fun c271_ => ?_) (fun c271_ => ?_)
                  · refine lv_iload_n hx hb dX10_orders_283 rfl (lv_at hl 4 rfl) ?_
                    refine lv_iconst (v := iZ 2) hx hb dX10_orders_284 rfl ?_
                    refine fz_icmp_ne (tgt := 292) (by constructor <;> show_term (have zq198 : True := trivial; omega)) (by decide) hx hb dX10_orders_285 (by decide) (fun c285_ => ?_) (fun c285_ => ?_)
                    · refine lv_iload hx hb dX10_orders_292 (lv_at hl 0 rfl) ?_
                      exact W.iret (v := iZ (ti_20)) hx hb hr (fun t9 ht9 hW9 => ⟨⟨iZ (ti_20), (μ20_, ti_20), rfl, ⟨rfl, (by
                                                    dsimp only
                                                    exact ⟨hfr, by show_term (have zq199 : True := trivial; omega)⟩)⟩, by rw [ht9]; exact hP, va_K.moved hW9.alike hK⟩, hS.F ht9⟩) hS.2.2 dX10_orders_294
                    · refine lv_iload_n hx hb dX10_orders_288 rfl (lv_at hl 2 rfl) ?_
                      refine lv_goto (tgt := 294) hx hb dX10_orders_289 (by decide) ?_
                      exact W.iret (v := iZ (le9_19)) hx hb hr (fun t9 ht9 hW9 => ⟨⟨iZ (le9_19), (μ20_, le9_19), rfl, ⟨rfl, (by
                                                    dsimp only
                                                    exact ⟨hfr, by show_term (have zq200 : True := trivial; omega)⟩)⟩, by rw [ht9]; exact hP, va_K.moved hW9.alike hK⟩, hS.F ht9⟩) hS.2.2 dX10_orders_294
                  · refine lv_aload_n hx hb dX10_orders_274 rfl (lv_at hl 5 rfl) ?_
                    refine fz_get (D := (dC, dI)) (ci := 10) (v := .ref (h0 + 6324)) (C := RX10) (T := TX10) (N := 53) hx hb hts inG10 hown hK hP (k := 0) (by decide) (F := mF h0) mE_obj rfl 52 (by decide) (hts _ k1218) (fun _ h9 => h9) rfl dX10_orders_275 ?_
                    refine lv_iload_n hx hb dX10_orders_278 rfl (lv_at hl 2 rfl) ?_
                    refine fz_ld (k := 6324) (n := 24) hx hb hK hP 0 (by decide) mE_orderCost rfl ⟨by show_term (have zq201 : True := trivial; omega), by show_term (have zq202 : True := trivial; omega)⟩ (by decide) dX10_orders_279 ?_
                    refine lv_goto (tgt := 294) hx hb dX10_orders_280 (by decide) ?_
                    exact W.iret (v := iZ (μ20_ 6324 (le9_19).toNat)) hx hb hr (fun t9 ht9 hW9 => ⟨⟨iZ (μ20_ 6324 (le9_19).toNat), (μ20_, μ20_ 6324 (le9_19).toNat), rfl, ⟨rfl, (by
                                                dsimp only
                                                exact ⟨hfr, by show_term (have zq203 : True := trivial; omega)⟩)⟩, by rw [ht9]; exact hP, va_K.moved hW9.alike hK⟩, hS.F ht9⟩) hS.2.2 dX10_orders_294
                · refine lv_iload hx hb dX10_orders_264 (lv_at hl 1 rfl) ?_
                  refine lv_goto (tgt := 294) hx hb dX10_orders_266 (by decide) ?_
                  exact W.iret (v := iZ (di_19)) hx hb hr (fun t9 ht9 hW9 => ⟨⟨iZ (di_19), (μ20_, di_19), rfl, ⟨rfl, (by
                                            dsimp only
                                            exact ⟨hfr, by show_term (have zq204 : True := trivial; omega)⟩)⟩, by rw [ht9]; exact hP, va_K.moved hW9.alike hK⟩, hS.F ht9⟩) hS.2.2 dX10_orders_294
      · refine lv_bipush (v := iZ 24) hx hb dX10_orders_64 rfl ?_
        refine lv_goto (tgt := 86) hx hb dX10_orders_66 (by decide) ?_
        refine lv_istore_n (lv' := [(2, .int (iZ (24))), (0, .ref h0), (1, .int (iZ (wh)))]) hx hb dX10_orders_86 rfl hl (by decide) rfl (fun ls hl => ?_)
        refine lv_iconst (v := iZ 0) hx hb dX10_orders_87 rfl ?_
        refine lv_istore_n (lv' := [(3, .int (iZ (0))), (2, .int (iZ (24))), (0, .ref h0), (1, .int (iZ (wh)))]) hx hb dX10_orders_88 rfl hl (by decide) rfl (fun ls hl => ?_)
        refine lv_iconst (v := iZ 0) hx hb dX10_orders_89 rfl ?_
        refine lv_istore (lv' := [(4, .int (iZ (0))), (3, .int (iZ (0))), (2, .int (iZ (24))), (0, .ref h0), (1, .int (iZ (wh)))]) hx hb dX10_orders_90 hl (by decide) rfl (fun ls hl => ?_)
        refine lv_iconst (v := iZ 0) hx hb dX10_orders_92 rfl ?_
        refine lv_istore (lv' := [(5, .int (iZ (0))), (4, .int (iZ (0))), (3, .int (iZ (0))), (2, .int (iZ (24))), (0, .ref h0), (1, .int (iZ (wh)))]) hx hb dX10_orders_93 hl (by decide) rfl (fun ls hl => ?_)
        refine lv_iconst (v := iZ 0) hx hb dX10_orders_95 rfl ?_
        refine lv_istore (lv' := [(6, .int (iZ (0))), (5, .int (iZ (0))), (4, .int (iZ (0))), (3, .int (iZ (0))), (2, .int (iZ (24))), (0, .ref h0), (1, .int (iZ (wh)))]) hx hb dX10_orders_96 hl (by decide) rfl (fun ls hl => ?_)
        refine LX10_orders_98 hx hb hml hown hts hK (Nat.le_of_ble_eq_true rfl) (Nat.le_of_ble_eq_true rfl) (Nat.le_of_ble_eq_true rfl) (Nat.le_of_ble_eq_true rfl) (μ13) (wh) (24) (J) (by exact hQ9) (by exact hJK) (by show_term (have zq205 : True := trivial; omega)) (by show_term (have zq206 : True := trivial; omega)) (by intro j h1 h2; unfold kOK; show_term (have zq207 : True := trivial; omega)) ?_ _ (0) μ13 H locs ls (by show_term (have zq208 : True := trivial; omega)) (by exact fr_rfl) (by intro j hj; show_term (have zq209 : True := trivial; omega)) (by intro j hj; show_term (have zq210 : True := trivial; omega)) (Nat.lt_succ_self _) hP hS (lv_sub hl [0, 1, 2, 3, 4, 6, 5] rfl)
        · intro kk_21 μ21_ H locs ls q1_21 q2_21 q3_21 hP hS hl
          have hl : lv_has ls 9 [(5, .int (iZ (0))), (4, .int (iZ (0))), (3, .int (iZ (0))), (2, .int (iZ (24))), (1, .int (iZ (wh))), (0, .ref h0)] := hl
          have G1_ := q1_21
          have G2_ := q2_21
          have G3_ := q3_21
          have hfr := fr_trans hfr (fr_mono G1_ (fun x y h => OAl_PS h))
          have g00_ := G1_ 0 0 (by unfold OAl LD; show_term (have zq211 : True := trivial; omega))
          refine lv_iconst (v := iZ 0) hx hb dX10_orders_120 rfl ?_
          refine lv_istore (lv' := [(6, .int (iZ (0))), (5, .int (iZ (0))), (4, .int (iZ (0))), (3, .int (iZ (0))), (2, .int (iZ (24))), (1, .int (iZ (wh))), (0, .ref h0)]) hx hb dX10_orders_121 hl (by decide) rfl (fun ls hl => ?_)
          refine LX10_orders_123 hx hb hml hown hts hK (Nat.le_of_ble_eq_true rfl) (Nat.le_of_ble_eq_true rfl) (Nat.le_of_ble_eq_true rfl) (Nat.le_of_ble_eq_true rfl) (μ21_) (wh) (24) (by show_term (have zq212 : True := trivial; omega)) (by exact G2_) (by exact G3_) ?_ _ (0) (0) (0) μ21_ H locs ls (by rfl) (by show_term (have zq213 : True := trivial; omega)) (by show_term (have zq214 : True := trivial; omega)) (by show_term (have zq215 : True := trivial; omega)) (Nat.lt_succ_self _) hP hS (lv_sub hl [0, 1, 2, 3, 4, 5, 6] rfl)
          · intro i_22 le9_22 di_22 μ22_ H locs ls q4_22 q5_22 q6_22 hP hS hl
            have hl : lv_has ls 9 [(5, .int (iZ (0))), (4, .int (iZ (di_22))), (3, .int (iZ (le9_22))), (2, .int (iZ (24))), (1, .int (iZ (wh))), (0, .ref h0)] := hl
            have hPn219 := hP
            obtain rfl := q4_22
            have hP := hPn219
            have q5_ := q5_22
            have q6_ := q6_22
            refine lv_iconst (v := iZ 0) hx hb dX10_orders_219 rfl ?_
            refine lv_istore (lv' := [(6, .int (iZ (0))), (5, .int (iZ (0))), (4, .int (iZ (di_22))), (3, .int (iZ (le9_22))), (2, .int (iZ (24))), (1, .int (iZ (wh))), (0, .ref h0)]) hx hb dX10_orders_220 hl (by decide) rfl (fun ls hl => ?_)
            refine LX10_orders_222 hx hb hml hown hts hK (Nat.le_of_ble_eq_true rfl) (Nat.le_of_ble_eq_true rfl) (Nat.le_of_ble_eq_true rfl) (Nat.le_of_ble_eq_true rfl) (μ22_) (wh) (24) (le9_22) (di_22) (by show_term (have zq216 : True := trivial; omega)) (by exact G2_) (by show_term (have zq217 : True := trivial; omega)) ?_ _ (0) (0) μ22_ H locs ls (by rfl) (by show_term (have zq218 : True := trivial; omega)) (by show_term (have zq219 : True := trivial; omega)) (Nat.lt_succ_self _) hP hS (lv_sub hl [0, 1, 2, 3, 4, 5, 6] rfl)
            · intro i_23 ti_23 μ23_ H locs ls q10_23 q11_23 hP hS hl
              have hl : lv_has ls 9 [(5, .int (iZ (ti_23))), (4, .int (iZ (di_22))), (3, .int (iZ (le9_22))), (2, .int (iZ (24))), (1, .int (iZ (wh))), (0, .ref h0)] := hl
              have hPn260 := hP
              obtain rfl := q10_23
              have hP := hPn260
              have q11_ := q11_23
              refine lv_iload_n hx hb dX10_orders_260 rfl (lv_at hl 4 rfl) ?_
              refine fz_if_ne (tgt := 269) (by constructor <;> show_term (have zq220 : True := trivial; omega)) hx hb dX10_orders_261 (by decide) (fun c261_ => ?_) (fun c261_ => ?_)
              · refine lv_iload_n hx hb dX10_orders_269 rfl (lv_at hl 4 rfl) ?_
                refine lv_iconst (v := iZ 1) hx hb dX10_orders_270 rfl ?_
                refine fz_icmp_ne (tgt := 283) (by constructor <;> show_term (have zq221 : True := trivial; omega)) (by decide) hx hb dX10_orders_271 (by decide) (fun c271_ => ?_) (fun c271_ => ?_)
                · refine lv_iload_n hx hb dX10_orders_283 rfl (lv_at hl 4 rfl) ?_
                  refine lv_iconst (v := iZ 2) hx hb dX10_orders_284 rfl ?_
                  refine fz_icmp_ne (tgt := 292) (by constructor <;> show_term (have zq222 : True := trivial; omega)) (by decide) hx hb dX10_orders_285 (by decide) (fun c285_ => ?_) (fun c285_ => ?_)
                  · refine lv_iload hx hb dX10_orders_292 (lv_at hl 0 rfl) ?_
                    exact W.iret (v := iZ (ti_23)) hx hb hr (fun t9 ht9 hW9 => ⟨⟨iZ (ti_23), (μ23_, ti_23), rfl, ⟨rfl, (by
                                                dsimp only
                                                exact ⟨hfr, by show_term (have zq223 : True := trivial; omega)⟩)⟩, by rw [ht9]; exact hP, va_K.moved hW9.alike hK⟩, hS.F ht9⟩) hS.2.2 dX10_orders_294
                  · refine lv_iload_n hx hb dX10_orders_288 rfl (lv_at hl 2 rfl) ?_
                    refine lv_goto (tgt := 294) hx hb dX10_orders_289 (by decide) ?_
                    exact W.iret (v := iZ (le9_22)) hx hb hr (fun t9 ht9 hW9 => ⟨⟨iZ (le9_22), (μ23_, le9_22), rfl, ⟨rfl, (by
                                                dsimp only
                                                exact ⟨hfr, by show_term (have zq224 : True := trivial; omega)⟩)⟩, by rw [ht9]; exact hP, va_K.moved hW9.alike hK⟩, hS.F ht9⟩) hS.2.2 dX10_orders_294
                · refine lv_aload_n hx hb dX10_orders_274 rfl (lv_at hl 5 rfl) ?_
                  refine fz_get (D := (dC, dI)) (ci := 10) (v := .ref (h0 + 6324)) (C := RX10) (T := TX10) (N := 53) hx hb hts inG10 hown hK hP (k := 0) (by decide) (F := mF h0) mE_obj rfl 52 (by decide) (hts _ k1218) (fun _ h9 => h9) rfl dX10_orders_275 ?_
                  refine lv_iload_n hx hb dX10_orders_278 rfl (lv_at hl 2 rfl) ?_
                  refine fz_ld (k := 6324) (n := 24) hx hb hK hP 0 (by decide) mE_orderCost rfl ⟨by show_term (have zq225 : True := trivial; omega), by show_term (have zq226 : True := trivial; omega)⟩ (by decide) dX10_orders_279 ?_
                  refine lv_goto (tgt := 294) hx hb dX10_orders_280 (by decide) ?_
                  exact W.iret (v := iZ (μ23_ 6324 (le9_22).toNat)) hx hb hr (fun t9 ht9 hW9 => ⟨⟨iZ (μ23_ 6324 (le9_22).toNat), (μ23_, μ23_ 6324 (le9_22).toNat), rfl, ⟨rfl, (by
                                            dsimp only
                                            exact ⟨hfr, by show_term (have zq227 : True := trivial; omega)⟩)⟩, by rw [ht9]; exact hP, va_K.moved hW9.alike hK⟩, hS.F ht9⟩) hS.2.2 dX10_orders_294
              · refine lv_iload hx hb dX10_orders_264 (lv_at hl 1 rfl) ?_
                refine lv_goto (tgt := 294) hx hb dX10_orders_266 (by decide) ?_
                exact W.iret (v := iZ (di_22)) hx hb hr (fun t9 ht9 hW9 => ⟨⟨iZ (di_22), (μ23_, di_22), rfl, ⟨rfl, (by
                                        dsimp only
                                        exact ⟨hfr, by show_term (have zq228 : True := trivial; omega)⟩)⟩, by rw [ht9]; exact hP, va_K.moved hW9.alike hK⟩, hS.F ht9⟩) hS.2.2 dX10_orders_294
    · refine lv_iconst (v := iZ 1) hx hb dX10_orders_41 rfl ?_
      refine lv_goto (tgt := 46) hx hb dX10_orders_42 (by decide) ?_
      refine lv_iconst (v := iZ 2) hx hb dX10_orders_46 rfl ?_
      refine lv_iconst (v := iZ 2) hx hb dX10_orders_47 rfl ?_
      refine va_calli (va_runV (As := [.int (iZ (1)), .int (iZ (2)), .int (iZ (2))]) (rest := []) ⟨hx, hb, hml, hown, hts⟩ (m_bad2 l dC dI cI cZ cII cIII h0 H.size μ8 (1) (2) (2) (by first | assumption | show_term (have zq229 : True := trivial; omega) | exact ⟨by show_term (have zq230 : True := trivial; omega), by show_term (have zq231 : True := trivial; omega)⟩) (by first | assumption | show_term (have zq232 : True := trivial; omega) | exact ⟨by show_term (have zq233 : True := trivial; omega), by show_term (have zq234 : True := trivial; omega)⟩) (by first | assumption | show_term (have zq235 : True := trivial; omega) | exact ⟨by show_term (have zq236 : True := trivial; omega), by show_term (have zq237 : True := trivial; omega)⟩) (by first | assumption | show_term (have zq238 : True := trivial; omega) | exact ⟨by show_term (have zq239 : True := trivial; omega), by show_term (have zq240 : True := trivial; omega)⟩)) (cwV 3 hts (gV_G k1338 k1340 ks_yX10_bad k13 k1341) rfl rfl rfl (by decide +kernel) ⟨Nat.le_of_ble_eq_true rfl, Nat.le_of_ble_eq_true rfl⟩) ⟨fun a U g mk q => by obtain ⟨q0, q1, qP, qK⟩ := q; exact ⟨q0, q1, qP, va_K.moved (u := U) (U := U.calling g mk a) (Vm.Alike.refl U.vm) qK⟩, va_recv hK hP (ci := 10) (q0 := 0) rfl ((fw_get (by decide)).trans (by rw [mE_obj]; rfl)), fun U hU hW => ⟨rfl, by rw [hU], by rw [hU]; exact hP, va_K.moved hW.alike hK⟩⟩ rfl rfl hl.1 rfl (lv_room (Nat.le_of_ble_eq_true rfl)) dX10_orders_48 ⟨Nat.le_of_ble_eq_true rfl, Nat.le_of_ble_eq_true rfl⟩) hS (fun q _ h => fA_le hS.1 q h) (fA_le hS.1) (fun r9 u9 t9 H1 locs ht9 hvm9 hw9 hB9 hz9 hk9 hS => ?_)
      obtain ⟨μ24, r25⟩ := u9
      obtain ⟨hP, -⟩ := hB9
      rw [ht9] at hP
      generalize H1 = H at hP hS ⊢
      obtain ⟨e9, hw9⟩ := hw9
      have e9 : r9 = iZ r25 := e9
      subst e9
      simp only at hP hw9
      have hμ24 := hw9; clear hw9
      have hfr := fr_trans hfr (badP_fr hμ24)
      have hrb := badP_r hμ24
      obtain rfl : r25 = 1 := by show_term (have zq241 : True := trivial; omega)
      refine fz_if_eq (tgt := 56) (by decide) hx hb dX10_orders_51 (by decide) (fun h9 => absurd h9 (by decide)) (fun c51_ => ?_)
      refine lv_iconst (v := iZ 0) hx hb dX10_orders_54 rfl ?_
      exact W.iret (v := iZ (0)) hx hb hr (fun t9 ht9 hW9 => ⟨⟨iZ (0), (μ24, 0), rfl, ⟨rfl, (by
                    dsimp only
                    exact ⟨hfr, by show_term (have zq242 : True := trivial; omega)⟩)⟩, by rw [ht9]; exact hP, va_K.moved hW9.alike hK⟩, hS.F ht9⟩) hS.2.2 dX10_orders_55
  · refine lv_iconst (v := iZ 1) hx hb dX10_orders_15 rfl ?_
    refine lv_goto (tgt := 20) hx hb dX10_orders_16 (by decide) ?_
    refine lv_iconst (v := iZ 1) hx hb dX10_orders_20 rfl ?_
    refine lv_iconst (v := iZ 1) hx hb dX10_orders_21 rfl ?_
    refine va_calli (va_runV (As := [.int (iZ (1)), .int (iZ (1)), .int (iZ (1))]) (rest := []) ⟨hx, hb, hml, hown, hts⟩ (m_bad2 l dC dI cI cZ cII cIII h0 H.size μ5 (1) (1) (1) (by first | assumption | show_term (have zq243 : True := trivial; omega) | exact ⟨by show_term (have zq244 : True := trivial; omega), by show_term (have zq245 : True := trivial; omega)⟩) (by first | assumption | show_term (have zq246 : True := trivial; omega) | exact ⟨by show_term (have zq247 : True := trivial; omega), by show_term (have zq248 : True := trivial; omega)⟩) (by first | assumption | show_term (have zq249 : True := trivial; omega) | exact ⟨by show_term (have zq250 : True := trivial; omega), by show_term (have zq251 : True := trivial; omega)⟩) (by first | assumption | show_term (have zq252 : True := trivial; omega) | exact ⟨by show_term (have zq253 : True := trivial; omega), by show_term (have zq254 : True := trivial; omega)⟩)) (cwV 3 hts (gV_G k1338 k1340 ks_yX10_bad k13 k1341) rfl rfl rfl (by decide +kernel) ⟨Nat.le_of_ble_eq_true rfl, Nat.le_of_ble_eq_true rfl⟩) ⟨fun a U g mk q => by obtain ⟨q0, q1, qP, qK⟩ := q; exact ⟨q0, q1, qP, va_K.moved (u := U) (U := U.calling g mk a) (Vm.Alike.refl U.vm) qK⟩, va_recv hK hP (ci := 10) (q0 := 0) rfl ((fw_get (by decide)).trans (by rw [mE_obj]; rfl)), fun U hU hW => ⟨rfl, by rw [hU], by rw [hU]; exact hP, va_K.moved hW.alike hK⟩⟩ rfl rfl hl.1 rfl (lv_room (Nat.le_of_ble_eq_true rfl)) dX10_orders_22 ⟨Nat.le_of_ble_eq_true rfl, Nat.le_of_ble_eq_true rfl⟩) hS (fun q _ h => fA_le hS.1 q h) (fA_le hS.1) (fun r9 u9 t9 H1 locs ht9 hvm9 hw9 hB9 hz9 hk9 hS => ?_)
    obtain ⟨μ26, r27⟩ := u9
    obtain ⟨hP, -⟩ := hB9
    rw [ht9] at hP
    generalize H1 = H at hP hS ⊢
    obtain ⟨e9, hw9⟩ := hw9
    have e9 : r9 = iZ r27 := e9
    subst e9
    simp only at hP hw9
    have hμ26 := hw9; clear hw9
    have hfr := fr_trans hfr (badP_fr hμ26)
    have hrb := badP_r hμ26
    obtain rfl : r27 = 1 := by show_term (have zq255 : True := trivial; omega)
    refine fz_if_ne (tgt := 54) (by decide) hx hb dX10_orders_25 (by decide) (fun c25_ => ?_) (fun h9 => absurd h9 (by decide))
    refine lv_iconst (v := iZ 0) hx hb dX10_orders_54 rfl ?_
    exact W.iret (v := iZ (0)) hx hb hr (fun t9 ht9 hW9 => ⟨⟨iZ (0), (μ26, 0), rfl, ⟨rfl, (by
                dsimp only
                exact ⟨hfr, by show_term (have zq256 : True := trivial; omega)⟩)⟩, by rw [ht9]; exact hP, va_K.moved hW9.alike hK⟩, hS.F ht9⟩) hS.2.2 dX10_orders_55

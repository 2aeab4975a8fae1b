theorem dX10_walks_111 : decode cX10_walks 111 = .ok (.iload 8, 2) := by decide +kernel
theorem dX10_walks_113 : decode cX10_walks 113 = .ok (.iconst 5, 1) := by decide +kernel
theorem dX10_walks_114 : decode cX10_walks 114 = .ok (.if_icmp .eq 23, 3) := by decide +kernel
theorem dX10_walks_117 : decode cX10_walks 117 = .ok (.iload 8, 2) := by decide +kernel
theorem dX10_walks_119 : decode cX10_walks 119 = .ok (.iconst 4, 1) := by decide +kernel
theorem dX10_walks_120 : decode cX10_walks 120 = .ok (.if_icmp .ne 21, 3) := by decide +kernel
theorem dX10_walks_141 : decode cX10_walks 141 = .ok (.iconst 0, 1) := by decide +kernel
theorem dX10_walks_142 : decode cX10_walks 142 = .ok (.istore 13, 2) := by decide +kernel
theorem dX10_walks_144 : decode cX10_walks 144 = .ok (.iload 5, 2) := by decide +kernel
theorem dX10_walks_146 : decode cX10_walks 146 = .ok (.ifCond .le 25, 3) := by decide +kernel
theorem dX10_walks_149 : decode cX10_walks 149 = .ok (.iload 13, 2) := by decide +kernel
theorem dX10_walks_151 : decode cX10_walks 151 = .ok (.ifCond .eq 10, 3) := by decide +kernel
theorem dX10_walks_161 : decode cX10_walks 161 = .ok (.aload_n 0, 1) := by decide +kernel
theorem dX10_walks_162 : decode cX10_walks 162 = .ok (.iload_n 2, 1) := by decide +kernel
theorem dX10_walks_163 : decode cX10_walks 163 = .ok (.iload 6, 2) := by decide +kernel
theorem dX10_walks_165 : decode cX10_walks 165 = .ok (.invokevirtual 219, 3) := by decide +kernel
theorem dX10_walks_168 : decode cX10_walks 168 = .ok (.iconst 0, 1) := by decide +kernel
theorem dX10_walks_169 : decode cX10_walks 169 = .ok (.istore 5, 2) := by decide +kernel
theorem dX10_walks_171 : decode cX10_walks 171 = .ok (.iload 13, 2) := by decide +kernel
theorem dX10_walks_173 : decode cX10_walks 173 = .ok (.ifCond .eq 21, 3) := by decide +kernel
theorem dX10_walks_194 : decode cX10_walks 194 = .ok (.iload 8, 2) := by decide +kernel
theorem dX10_walks_196 : decode cX10_walks 196 = .ok (.iconst 1, 1) := by decide +kernel
theorem dX10_walks_197 : decode cX10_walks 197 = .ok (.if_icmp .ne 14, 3) := by decide +kernel
theorem dX10_walks_200 : decode cX10_walks 200 = .ok (.aload_n 0, 1) := by decide +kernel
theorem dX10_walks_201 : decode cX10_walks 201 = .ok (.iload_n 1, 1) := by decide +kernel
theorem dX10_walks_202 : decode cX10_walks 202 = .ok (.iload 9, 2) := by decide +kernel
theorem dX10_walks_204 : decode cX10_walks 204 = .ok (.iload 10, 2) := by decide +kernel
theorem dX10_walks_206 : decode cX10_walks 206 = .ok (.iload_n 2, 1) := by decide +kernel
theorem dX10_walks_207 : decode cX10_walks 207 = .ok (.invokevirtual 248, 3) := by decide +kernel
theorem dX10_walks_210 : decode cX10_walks 210 = .ok (.pop, 1) := by decide +kernel
theorem dX10_walks_211 : decode cX10_walks 211 = .ok (.iload 8, 2) := by decide +kernel
theorem dX10_walks_213 : decode cX10_walks 213 = .ok (.iconst 2, 1) := by decide +kernel
theorem dX10_walks_214 : decode cX10_walks 214 = .ok (.if_icmp .ne 23, 3) := by decide +kernel
theorem dX10_walks_217 : decode cX10_walks 217 = .ok (.aload_n 0, 1) := by decide +kernel
theorem dX10_walks_218 : decode cX10_walks 218 = .ok (.iload 11, 2) := by decide +kernel
theorem dX10_walks_220 : decode cX10_walks 220 = .ok (.iload 9, 2) := by decide +kernel
theorem dX10_walks_222 : decode cX10_walks 222 = .ok (.iload 12, 2) := by decide +kernel
theorem dX10_walks_224 : decode cX10_walks 224 = .ok (.aload_n 0, 1) := by decide +kernel
theorem dX10_walks_225 : decode cX10_walks 225 = .ok (.getfield 67, 3) := by decide +kernel
theorem dX10_walks_228 : decode cX10_walks 228 = .ok (.iload_n 1, 1) := by decide +kernel
theorem dX10_walks_229 : decode cX10_walks 229 = .ok (.aaload, 1) := by decide +kernel
theorem dX10_walks_230 : decode cX10_walks 230 = .ok (.iload 4, 2) := by decide +kernel
theorem dX10_walks_232 : decode cX10_walks 232 = .ok (.iload_n 2, 1) := by decide +kernel
theorem dX10_walks_233 : decode cX10_walks 233 = .ok (.invokevirtual 256, 3) := by decide +kernel
theorem dX10_walks_236 : decode cX10_walks 236 = .ok (.pop, 1) := by decide +kernel
theorem dX10_walks_237 : decode cX10_walks 237 = .ok (.iload 8, 2) := by decide +kernel
theorem dX10_walks_239 : decode cX10_walks 239 = .ok (.iconst 3, 1) := by decide +kernel
theorem dX10_walks_240 : decode cX10_walks 240 = .ok (.if_icmp .ne 22, 3) := by decide +kernel
theorem dX10_walks_243 : decode cX10_walks 243 = .ok (.aload_n 0, 1) := by decide +kernel
theorem dX10_walks_244 : decode cX10_walks 244 = .ok (.iload 12, 2) := by decide +kernel
theorem dX10_walks_246 : decode cX10_walks 246 = .ok (.iload 10, 2) := by decide +kernel
theorem dX10_walks_248 : decode cX10_walks 248 = .ok (.iload 11, 2) := by decide +kernel
theorem dX10_walks_250 : decode cX10_walks 250 = .ok (.aload_n 0, 1) := by decide +kernel
theorem dX10_walks_251 : decode cX10_walks 251 = .ok (.getfield 64, 3) := by decide +kernel
theorem dX10_walks_254 : decode cX10_walks 254 = .ok (.iload_n 1, 1) := by decide +kernel
theorem dX10_walks_255 : decode cX10_walks 255 = .ok (.aaload, 1) := by decide +kernel
theorem dX10_walks_256 : decode cX10_walks 256 = .ok (.iload_n 3, 1) := by decide +kernel
theorem dX10_walks_257 : decode cX10_walks 257 = .ok (.iload_n 2, 1) := by decide +kernel
theorem dX10_walks_258 : decode cX10_walks 258 = .ok (.invokevirtual 256, 3) := by decide +kernel
theorem dX10_walks_261 : decode cX10_walks 261 = .ok (.pop, 1) := by decide +kernel
theorem dX10_walks_262 : decode cX10_walks 262 = .ok (.iload 8, 2) := by decide +kernel
theorem dX10_walks_264 : decode cX10_walks 264 = .ok (.iconst 4, 1) := by decide +kernel
theorem dX10_walks_265 : decode cX10_walks 265 = .ok (.if_icmp .ne 12, 3) := by decide +kernel
theorem dX10_walks_277 : decode cX10_walks 277 = .ok (.iload 8, 2) := by decide +kernel
theorem dX10_walks_279 : decode cX10_walks 279 = .ok (.iconst 5, 1) := by decide +kernel
theorem dX10_walks_280 : decode cX10_walks 280 = .ok (.if_icmp .ne 12, 3) := by decide +kernel
theorem dX10_walks_292 : decode cX10_walks 292 = .ok (.iload 7, 2) := by decide +kernel
theorem dX10_walks_294 : decode cX10_walks 294 = .ok (.iload 8, 2) := by decide +kernel
theorem dX10_walks_296 : decode cX10_walks 296 = .ok (.iconst 3, 1) := by decide +kernel
theorem dX10_walks_297 : decode cX10_walks 297 = .ok (.if_icmp .gt 23, 3) := by decide +kernel
theorem dX10_walks_300 : decode cX10_walks 300 = .ok (.iload 8, 2) := by decide +kernel
theorem dX10_walks_302 : decode cX10_walks 302 = .ok (.iconst 2, 1) := by decide +kernel
theorem dX10_walks_303 : decode cX10_walks 303 = .ok (.if_icmp .ne 21, 3) := by decide +kernel
theorem dX10_walks_306 : decode cX10_walks 306 = .ok (.aload_n 0, 1) := by decide +kernel
theorem dX10_walks_307 : decode cX10_walks 307 = .ok (.getfield 45, 3) := by decide +kernel
theorem dX10_walks_310 : decode cX10_walks 310 = .ok (.iload 11, 2) := by decide +kernel
theorem dX10_walks_312 : decode cX10_walks 312 = .ok (.aaload, 1) := by decide +kernel
theorem dX10_walks_313 : decode cX10_walks 313 = .ok (.iload 9, 2) := by decide +kernel
theorem dX10_walks_315 : decode cX10_walks 315 = .ok (.iaload, 1) := by decide +kernel
theorem dX10_walks_316 : decode cX10_walks 316 = .ok (.iconst 3, 1) := by decide +kernel
theorem dX10_walks_317 : decode cX10_walks 317 = .ok (.if_icmp .ne 7, 3) := by decide +kernel
theorem dX10_walks_320 : decode cX10_walks 320 = .ok (.iconst 1, 1) := by decide +kernel
theorem dX10_walks_321 : decode cX10_walks 321 = .ok (.goto 4, 3) := by decide +kernel
theorem dX10_walks_324 : decode cX10_walks 324 = .ok (.iconst 0, 1) := by decide +kernel
theorem dX10_walks_325 : decode cX10_walks 325 = .ok (.iand, 1) := by decide +kernel
theorem dX10_walks_326 : decode cX10_walks 326 = .ok (.istore 7, 2) := by decide +kernel
theorem dX10_walks_328 : decode cX10_walks 328 = .ok (.iload_n 3, 1) := by decide +kernel
theorem dX10_walks_329 : decode cX10_walks 329 = .ok (.iload 8, 2) := by decide +kernel
theorem dX10_walks_331 : decode cX10_walks 331 = .ok (.iconst 3, 1) := by decide +kernel
theorem dX10_walks_332 : decode cX10_walks 332 = .ok (.if_icmp .ne 14, 3) := by decide +kernel
theorem dX10_walks_335 : decode cX10_walks 335 = .ok (.aload_n 0, 1) := by decide +kernel
theorem dX10_walks_336 : decode cX10_walks 336 = .ok (.iload 12, 2) := by decide +kernel
theorem dX10_walks_338 : decode cX10_walks 338 = .ok (.iload 10, 2) := by decide +kernel
theorem dX10_walks_340 : decode cX10_walks 340 = .ok (.invokevirtual 207, 3) := by decide +kernel
theorem dX10_walks_343 : decode cX10_walks 343 = .ok (.goto 14, 3) := by decide +kernel
theorem dX10_walks_346 : decode cX10_walks 346 = .ok (.iload 8, 2) := by decide +kernel
theorem dX10_walks_348 : decode cX10_walks 348 = .ok (.iconst 5, 1) := by decide +kernel
theorem dX10_walks_349 : decode cX10_walks 349 = .ok (.if_icmp .ne 7, 3) := by decide +kernel
theorem dX10_walks_356 : decode cX10_walks 356 = .ok (.iconst 1, 1) := by decide +kernel
theorem dX10_walks_357 : decode cX10_walks 357 = .ok (.iadd, 1) := by decide +kernel
theorem dX10_walks_358 : decode cX10_walks 358 = .ok (.istore_n 3, 1) := by decide +kernel
theorem dX10_walks_359 : decode cX10_walks 359 = .ok (.iload 4, 2) := by decide +kernel
theorem dX10_walks_361 : decode cX10_walks 361 = .ok (.iload 8, 2) := by decide +kernel
theorem dX10_walks_363 : decode cX10_walks 363 = .ok (.iconst 2, 1) := by decide +kernel
theorem dX10_walks_364 : decode cX10_walks 364 = .ok (.if_icmp .ne 14, 3) := by decide +kernel
theorem dX10_walks_367 : decode cX10_walks 367 = .ok (.aload_n 0, 1) := by decide +kernel
theorem dX10_walks_368 : decode cX10_walks 368 = .ok (.iload 11, 2) := by decide +kernel
theorem dX10_walks_370 : decode cX10_walks 370 = .ok (.iload 9, 2) := by decide +kernel
theorem dX10_walks_372 : decode cX10_walks 372 = .ok (.invokevirtual 207, 3) := by decide +kernel
theorem dX10_walks_375 : decode cX10_walks 375 = .ok (.goto 14, 3) := by decide +kernel
theorem dX10_walks_378 : decode cX10_walks 378 = .ok (.iload 8, 2) := by decide +kernel
theorem dX10_walks_380 : decode cX10_walks 380 = .ok (.iconst 4, 1) := by decide +kernel
theorem dX10_walks_381 : decode cX10_walks 381 = .ok (.if_icmp .ne 7, 3) := by decide +kernel
theorem dX10_walks_388 : decode cX10_walks 388 = .ok (.iconst 1, 1) := by decide +kernel
theorem dX10_walks_389 : decode cX10_walks 389 = .ok (.iadd, 1) := by decide +kernel
theorem dX10_walks_390 : decode cX10_walks 390 = .ok (.istore 4, 2) := by decide +kernel
theorem dX10_walks_392 : decode cX10_walks 392 = .ok (.goto (-378), 3) := by decide +kernel
set_option maxHeartbeats 40000000 in
set_option maxRecDepth 100000 in
theorem LX10_walks_w1 {p : Program} {l : Launch} {e : Env} {R : Room} {s : State} {m : MethodId} {args : Array Value} {below : List Frame} {meth : Method} {c : Code} {cells slots : Nat} {Q : State → Prop} {dC : Nat → ClassId} {dI : Nat → Nat → Nat} {h0 : Nat} {cI cZ cII cIII : ClassId} {d9 : Nat} (hx : p.tables.exec = Jvm.exec) (hb : c.code = cX10_walks) (hml : c.maxLocals = 14) (hown : s.vm.findClass RX10 = some m.cls) (hts : ∀ w ∈ wsG, w.before args s = true) (hK : va_K (dC, dI) vwCl (mT cI cZ cII cIII) s) (hRf : 5 * d9 + 32 + 1 + 1 + 1 + 1 ≤ R.frames) (hRl : 200 * d9 + 900 + 40 + 40 + 40 + 40 ≤ R.locals) (hRc : cells ≤ R.cells) (hRs : slots ≤ R.slots) (μ0 : va_M) (n : Int) (o1 : Int) (t : Int) (u1 : Int) (wS : Rw) (wP : Rw) (ps : Int) (pq : Int) (hLR : ∀ (sz : Nat) (μ : va_M) (n : Int) (t : Int) (a1 : Int) (a2 : Int) (u1 : Int) (b1 : Int) (b2 : Int) (o1 : Int) (wS : Rw) (wP : Rw), (0 ≤ n ∧ n + rH wP ≤ 13) → (0 ≤ t ∧ t < 70) → (0 ≤ u1 ∧ u1 < 70) → (0 ≤ a1 ∧ a2 = a1 + rN wS ∧ a2 ≤ 900) → (0 ≤ b1 ∧ b2 = b1 + rN wP ∧ b2 ≤ 900) → (RA μ t.toNat wS a1.toNat) → (RA μ u1.toNat wP b1.toNat) → (rWF wS) → (rWF wP) → (rL wS ≤ 259 ∧ rL wP ≤ 60 ∧ rH wS ≤ 20) → (-1 ≤ o1 ∧ o1 < 70 ∧ o1 ≠ t ∧ o1 ≠ u1) → (capI2 o1 (μ 719 o1.toNat) (rN (lrow wS wP))) → (rH wP < d9) → Met l yX10_laysRow (Cond.code yX10_laysRow cX10_laysRow 13 (some .int) :: wsG) ({ frames := 5 * d9 + 32, cells := 0, slots := 0, locals := 200 * d9 + 900 } : Room) (va_Pc [.ref h0, .int (iZ (n)), .int (iZ (t)), .int (iZ (a1)), .int (iZ (a2)), .int (iZ (u1)), .int (iZ (b1)), .int (iZ (b2)), .int (iZ (o1))] (fun U => U.heap.size = sz ∧ va_P (dC, dI) vwCl (fw (mE cI cZ cII cIII h0) h0 6325 μ) U.heap ∧ va_K (dC, dI) vwCl (mT cI cZ cII cIII) U)) (va_Qi (fun (r9 : Int32) (u : va_M × Int) => r9 = iZ u.2 ∧ (fun (u : va_M) (r : Int) => r = (lay wS wP).1 ∧ u 0 33 = (if (lay wS wP).2 = true then 1 else 0) ∧ layO μ u n.toNat o1 (lrow wS wP)) u.1 u.2) (fun u t => va_P (dC, dI) vwCl (fw (mE cI cZ cII cIII h0) h0 6325 u.1) t.heap ∧ va_K (dC, dI) vwCl (mT cI cZ cII cIII) t) (fA h0 6325 sz)) 0 0 (fA h0 6325 sz)) (hn : 0 ≤ n ∧ n + rH wP ≤ 13) (hL : lvS μ0 n.toNat t u1 wS wP ps pq) (ht : 0 ≤ t ∧ t < 70) (hu : 0 ≤ u1 ∧ u1 < 70) (htu : t ≠ -1 ∧ u1 ≠ -1) (hps : 0 ≤ ps ∧ ps + rN wS ≤ 900) (hpq : 0 ≤ pq ∧ pq + rN wP ≤ 900) (hwS : rWF wS) (hwP : rWF wP) (h260 : rL wS ≤ 259 ∧ rL wP ≤ 60 ∧ rH wS ≤ 20) (hd : rH wP ≤ d9) (hle : leB μ0 n.toNat wS wP 0 0) (ho : -1 ≤ o1 ∧ o1 < 70 ∧ o1 ≠ t ∧ o1 ≠ u1) (hcap : capI2 o1 (μ0 719 o1.toNat) (rN (lrow wS wP))) (n9 : Nat) (i : Int) (j : Int) (o : Int) (y : Int) (al : Int) (μ : va_M) (x67_0 : Int) (x93_0 : Int) (hwc : wSt μ0 μ n.toNat o1 (μ0 719 o1.toNat) (lrow wS wP) o y (wk o.toNat (rdrop i.toNat wS) (rdrop j.toNat wP)).1 (wk o.toNat (rdrop i.toNat wS) (rdrop j.toNat wP)).2) (hLc : lvS μ n.toNat t u1 wS wP ps pq) (hmn : wmin lay (rdrop i.toNat wS) (rdrop j.toNat wP) < 1000000) (hne9 : hsd (rdrop i.toNat wS) = true ∨ hsd (rdrop j.toNat wP) = true) (hj35_0 : i < (rI wS : Int) ∨ j < (rI wP : Int)) (hj67_0 : i < (rI wS : Int) → x67_0 = ps + (rO wS i.toNat : Int)) (hj93_0 : j < (rI wP : Int) → x93_0 = pq + (rO wP j.toNat : Int)) (hi : 0 ≤ i ∧ i ≤ rI wS) (hj : 0 ≤ j ∧ j ≤ rI wP) (ho9 : o = 0 ∨ o = 4 ∨ o = 5) (hal : alI al (rdrop i.toNat wS) (rdrop j.toNat wP) wS wP) (hwy : (wayOf (rdrop i.toNat wS) (rdrop j.toNat wP) : Int) = 1) (hm9 : (rI wS - i + (rI wP - j)).toNat < n9 + 1) (ih : ∀ (i : Int) (j : Int) (o : Int) (y : Int) (al : Int) (μ : va_M) (H : Heap) (locs : List Loc) (ls : Array Slot), (wSt μ0 μ n.toNat o1 (μ0 719 o1.toNat) (lrow wS wP) o y (wk o.toNat (rdrop i.toNat wS) (rdrop j.toNat wP)).1 (wk o.toNat (rdrop i.toNat wS) (rdrop j.toNat wP)).2) → (0 ≤ i ∧ i ≤ rI wS) → (0 ≤ j ∧ j ≤ rI wP) → (o = 0 ∨ o = 4 ∨ o = 5) → (alI al (rdrop i.toNat wS) (rdrop j.toNat wP) wS wP) → (rI wS - i + (rI wP - j)).toNat < n9 → va_P (dC, dI) vwCl (fw (mE cI cZ cII cIII h0) h0 6325 μ) H → va_S (fA h0 6325 s.heap.size) s.heap H locs → lv_has ls 14 [(7, .int (iZ (al))), (6, .int (iZ (y))), (5, .int (iZ (o))), (4, .int (iZ (j))), (3, .int (iZ (i))), (2, .int (iZ (o1))), (1, .int (iZ (n))), (0, .ref h0)] → W p l e R s m args below meth c H locs cells slots Q (F0 m 14 ls [])) :
    ∀ (H : Heap) (locs : List Loc) (ls : Array Slot), va_P (dC, dI) vwCl (fw (mE cI cZ cII cIII h0) h0 6325 μ) H → va_S (fA h0 6325 s.heap.size) s.heap H locs → lv_has ls 14 [(12, .int (iZ (u1))), (11, .int (iZ (t))), (10, .int (iZ (x93_0))), (9, .int (iZ (x67_0))), (8, .int (iZ (1))), (7, .int (iZ (al))), (6, .int (iZ (y))), (5, .int (iZ (o))), (4, .int (iZ (j))), (3, .int (iZ (i))), (2, .int (iZ (o1))), (1, .int (iZ (n))), (0, .ref h0)] → W p l e R s m args below meth c H locs cells slots Q (F0 m 111 ls []) := by
  intro H locs ls hP hS hl
  have hIS := rI_L wS hwS
  have hIP := rI_L wP hwP
  have hLx0 := hLc
  have hwy : wayOf (rdrop i.toNat wS) (rdrop j.toNat wP) = 1 := by (first | ((try clear hne9); (try clear hj35_0); (try clear hj67_0); (try clear hj93_0); (try clear ho9); (try clear htu); show_term (have zq0 : True := trivial; omega)) | show_term (have zq0 : True := trivial; omega))
  have hy9 : wayOf (rdrop i.toNat wS) (rdrop j.toNat wP) = 1 := by (first | ((try clear hne9); (try clear hj35_0); (try clear hj67_0); (try clear hj93_0); (try clear ho9); (try clear htu); show_term (have zq1 : True := trivial; omega)) | show_term (have zq1 : True := trivial; omega))
  have hh9 := way_hsd.1 (Or.inl hy9)
  have hi9 : i < (rI wS : Int) := by
    have h9 := hsd_I.mp hh9.1
    rw [rdrop_I] at h9
    show_term (have zq2 : True := trivial; omega)
  have hj9 : j < (rI wP : Int) := by
    have h9 := hsd_I.mp hh9.2
    rw [rdrop_I] at h9
    show_term (have zq3 : True := trivial; omega)
  have s0 := rdrop_I i.toNat wS
  have s1 := rdrop_N i.toNat wS
  have s9 := rdrop_H i.toNat wS
  have s3 := rdrop_WF i.toNat wS hwS
  obtain ⟨zs, ks, vs, la, ra, hes⟩ := rI_pos (w := rdrop i.toNat wS) (by (first | ((try clear hne9); (try clear hj35_0); (try clear hj67_0); (try clear hj93_0); (try clear ho9); (try clear htu); show_term (have zq4 : True := trivial; omega)) | show_term (have zq4 : True := trivial; omega)))
  rw [hes] at s0 s1 s3 s9 hy9 hmn hwc hal
  rw [rN_in] at s1
  rw [rI_in] at s0
  rw [rH_in] at s9
  have sF : iWF ks vs la := ⟨s3.1, s3.2.1, s3.2.2.1, s3.2.2.2.1, s3.2.2.2.2.1, s3.2.2.2.2.2.1, s3.2.2.2.2.2.2.1⟩
  have sFk : ks ≤ 4 := s3.1
  clear s3
  have sS := rdrop_S hes
  have sSI := rI_N2 la
  have sSL : rL la ≤ rL wS := Nat.le_trans (by rw [hes]; exact rL_l) (rdrop_L i.toNat wS)
  have hx_s : x67_0 = ps + (rO wS i.toNat : Int) := hj67_0 hi9
  have p_0 := rdrop_I j.toNat wP
  have p_1 := rdrop_N j.toNat wP
  have p_9 := rdrop_H j.toNat wP
  have p_3 := rdrop_WF j.toNat wP hwP
  obtain ⟨zp, kp, vp, lb, rb, hep⟩ := rI_pos (w := rdrop j.toNat wP) (by (first | ((try clear hne9); (try clear hj35_0); (try clear hj67_0); (try clear hj93_0); (try clear ho9); (try clear htu); show_term (have zq5 : True := trivial; omega)) | show_term (have zq5 : True := trivial; omega)))
  rw [hep] at p_0 p_1 p_3 p_9 hy9 hmn hwc hal
  rw [rN_in] at p_1
  rw [rI_in] at p_0
  rw [rH_in] at p_9
  have pF : iWF kp vp lb := ⟨p_3.1, p_3.2.1, p_3.2.2.1, p_3.2.2.2.1, p_3.2.2.2.2.1, p_3.2.2.2.2.2.1, p_3.2.2.2.2.2.2.1⟩
  have pFk : kp ≤ 4 := p_3.1
  clear p_3
  have pS := rdrop_S hep
  have pSI := rI_N2 lb
  have pSL : rL lb ≤ rL wP := Nat.le_trans (by rw [hep]; exact rL_l) (rdrop_L j.toNat wP)
  have hx_p_ : x93_0 = pq + (rO wP j.toNat : Int) := hj93_0 hj9
  rw [wk_1m hy9] at hwc
  dsimp only at hwc
  clear hne9 hj35_0 hj67_0 hj93_0
  rcases (show o = 0 ∨ o = 4 ∨ o = 5 from by exact ho9) with rfl | rfl | rfl
  · clear ho9
    refine lv_iload hx hb dX10_walks_111 (lv_at hl 4 rfl) ?_
    refine lv_iconst (v := iZ 5) hx hb dX10_walks_113 rfl ?_
    refine fz_icmp_eq (tgt := 137) (by decide) (by decide) hx hb dX10_walks_114 (by decide) (fun h9 => absurd h9 (by decide)) (fun c114_ => ?_)
    refine lv_iload hx hb dX10_walks_117 (lv_at hl 4 rfl) ?_
    refine lv_iconst (v := iZ 4) hx hb dX10_walks_119 rfl ?_
    refine fz_icmp_ne (tgt := 141) (by decide) (by decide) hx hb dX10_walks_120 (by decide) (fun c120_ => ?_) (fun h9 => absurd h9 (by decide))
    refine lv_iconst (v := iZ 0) hx hb dX10_walks_141 rfl ?_
    refine lv_istore (lv' := [(13, .int (iZ (0))), (12, .int (iZ (u1))), (11, .int (iZ (t))), (10, .int (iZ (x93_0))), (9, .int (iZ (x67_0))), (8, .int (iZ (1))), (7, .int (iZ (al))), (6, .int (iZ (y))), (5, .int (iZ (0))), (4, .int (iZ (j))), (3, .int (iZ (i))), (2, .int (iZ (o1))), (1, .int (iZ (n))), (0, .ref h0)]) hx hb dX10_walks_142 hl (by decide) rfl (fun ls hl => ?_)
    refine lv_iload hx hb dX10_walks_144 (lv_at hl 8 rfl) ?_
    refine fz_if_le (tgt := 171) (by decide) hx hb dX10_walks_146 (by decide) (fun c146_ => ?_) (fun h9 => absurd h9 (by decide))
    have hC := hwc
    have hLx := lvS_wSt hL hC (by (first | ((try clear hne9); (try clear hj35_0); (try clear hj67_0); (try clear hj93_0); (try clear ho9); (try clear htu); show_term (have zq6 : True := trivial; omega)) | show_term (have zq6 : True := trivial; omega))) ht hu ho
    have sIA : IA μ t.toNat x67_0.toNat ks vs la := by rw [hx_s]; exact IA_S hLx (by (first | ((try clear hne9); (try clear hj35_0); (try clear hj67_0); (try clear hj93_0); (try clear ho9); (try clear htu); show_term (have zq7 : True := trivial; omega)) | show_term (have zq7 : True := trivial; omega))) hes
    have pIA : IA μ u1.toNat x93_0.toNat kp vp lb := by rw [hx_p_]; exact IA_P hLx (by (first | ((try clear hne9); (try clear hj35_0); (try clear hj67_0); (try clear hj93_0); (try clear ho9); (try clear htu); show_term (have zq8 : True := trivial; omega)) | show_term (have zq8 : True := trivial; omega))) hep
    refine lv_iload hx hb dX10_walks_171 (lv_at hl 0 rfl) ?_
    refine fz_if_eq (tgt := 194) (by decide) hx hb dX10_walks_173 (by decide) (fun c173_ => ?_) (fun h9 => absurd h9 (by decide))
    refine lv_iload hx hb dX10_walks_194 (lv_at hl 5 rfl) ?_
    refine lv_iconst (v := iZ 1) hx hb dX10_walks_196 rfl ?_
    refine fz_icmp_ne (tgt := 211) (by decide) (by decide) hx hb dX10_walks_197 (by decide) (fun h9 => absurd h9 (by decide)) (fun c197_ => ?_)
    refine lv_aload_n hx hb dX10_walks_200 rfl (lv_at hl 13 rfl) ?_
    refine lv_iload_n hx hb dX10_walks_201 rfl (lv_at hl 12 rfl) ?_
    refine lv_iload hx hb dX10_walks_202 (lv_at hl 4 rfl) ?_
    refine lv_iload hx hb dX10_walks_204 (lv_at hl 3 rfl) ?_
    refine lv_iload_n hx hb dX10_walks_206 rfl (lv_at hl 11 rfl) ?_
    refine va_calli (va_runV (As := [.int (iZ (n)), .int (iZ (x67_0)), .int (iZ (x93_0)), .int (iZ (o1))]) (rest := []) ⟨hx, hb, hml, hown, hts⟩ (m_meets l dC dI cI cZ cII cIII h0 (d9) H.size μ (n) (x67_0) (x93_0) (o1) (t) (u1) (ks) (vs) (la) (kp) (vp) (lb) (by exact hLR) (by (first | ((try clear hne9); (try clear hj35_0); (try clear hj67_0); (try clear hj93_0); (try clear ho9); (try clear htu); show_term (have zq9 : True := trivial; omega)) | show_term (have zq9 : True := trivial; omega))) (by exact ⟨hLx.1, hLx.2.1⟩) (by first | assumption | ((try clear hne9); (try clear hj35_0); (try clear hj67_0); (try clear hj93_0); (try clear ho9); (try clear htu); show_term (have zq10 : True := trivial; omega)) | show_term (have zq10 : True := trivial; omega) | exact ⟨by (first | ((try clear hne9); (try clear hj35_0); (try clear hj67_0); (try clear hj93_0); (try clear ho9); (try clear htu); show_term (have zq11 : True := trivial; omega)) | show_term (have zq11 : True := trivial; omega)), by (first | ((try clear hne9); (try clear hj35_0); (try clear hj67_0); (try clear hj93_0); (try clear ho9); (try clear htu); show_term (have zq12 : True := trivial; omega)) | show_term (have zq12 : True := trivial; omega))⟩) (by first | assumption | ((try clear hne9); (try clear hj35_0); (try clear hj67_0); (try clear hj93_0); (try clear ho9); (try clear htu); show_term (have zq13 : True := trivial; omega)) | show_term (have zq13 : True := trivial; omega) | exact ⟨by (first | ((try clear hne9); (try clear hj35_0); (try clear hj67_0); (try clear hj93_0); (try clear ho9); (try clear htu); show_term (have zq14 : True := trivial; omega)) | show_term (have zq14 : True := trivial; omega)), by (first | ((try clear hne9); (try clear hj35_0); (try clear hj67_0); (try clear hj93_0); (try clear ho9); (try clear htu); show_term (have zq15 : True := trivial; omega)) | show_term (have zq15 : True := trivial; omega))⟩) (by (first | ((try clear hne9); (try clear hj35_0); (try clear hj67_0); (try clear hj93_0); (try clear ho9); (try clear htu); show_term (have zq16 : True := trivial; omega)) | show_term (have zq16 : True := trivial; omega))) (by (first | ((try clear hne9); (try clear hj35_0); (try clear hj67_0); (try clear hj93_0); (try clear ho9); (try clear htu); show_term (have zq17 : True := trivial; omega)) | show_term (have zq17 : True := trivial; omega))) (by exact sIA) (by exact pIA) (by exact sF) (by exact pF) (by (first | ((try clear hne9); (try clear hj35_0); (try clear hj67_0); (try clear hj93_0); (try clear ho9); (try clear htu); show_term (have zq18 : True := trivial; omega)) | show_term (have zq18 : True := trivial; omega))) (by (first | ((try clear hne9); (try clear hj35_0); (try clear hj67_0); (try clear hj93_0); (try clear ho9); (try clear htu); show_term (have zq19 : True := trivial; omega)) | show_term (have zq19 : True := trivial; omega))) (by intro h; have h9 := wSt_cap hC hcap h; rw [mtR_N] at h9; show_term (have zq20 : True := trivial; omega)) (by intro h; exact way1_c hy9 hmn) (by (first | ((try clear hne9); (try clear hj35_0); (try clear hj67_0); (try clear hj93_0); (try clear ho9); (try clear htu); show_term (have zq21 : True := trivial; omega)) | show_term (have zq21 : True := trivial; omega)))) (cwV 4 hts (gV_G k1552 k1554 ks_yX10_meets k13 k1555) rfl rfl rfl (by decide +kernel) ⟨by show 5 * d9 + 32 + 1 + 1 ≤ _; show_term (have zq22 : True := trivial; omega), by show 8 + (10 + 11) + (200 * d9 + 900 + 40) ≤ _; show_term (have zq23 : True := trivial; omega)⟩) ⟨fun a U g mk q => by obtain ⟨q0, q1, qP, qK⟩ := q; exact ⟨q0, q1, qP, va_K.moved (u := U) (U := U.calling g mk a) (Vm.Alike.refl U.vm) qK⟩, va_recv hK hP (ci := 10) (q0 := 0) rfl ((fw_get (by decide)).trans (by rw [mE_obj]; rfl)), fun U hU hW => ⟨rfl, by rw [hU], by rw [hU]; exact hP, va_K.moved hW.alike hK⟩⟩ rfl rfl hl.1 rfl (lv_room (Nat.le_of_ble_eq_true rfl)) dX10_walks_207 ⟨hRc, hRs⟩) hS (fun q _ h => fA_le hS.1 q h) (fA_le hS.1) (fun r9 u9 t9 H1 locs ht9 hvm9 hw9 hB9 hz9 hk9 hS => ?_)
    obtain ⟨μm, rm⟩ := u9
    obtain ⟨hP, -⟩ := hB9
    rw [ht9] at hP
    generalize H1 = H at hP hS ⊢
    obtain ⟨e9, hw9⟩ := hw9
    have e9 : r9 = iZ rm := e9
    subst e9
    simp only at hP hw9
    have hμm := hw9; clear hw9
    have hN := wSt_mt hC (by (first | ((try clear hne9); (try clear hj35_0); (try clear hj67_0); (try clear hj93_0); (try clear ho9); (try clear htu); show_term (have zq24 : True := trivial; omega)) | show_term (have zq24 : True := trivial; omega))) hμm.2 y
    refine lv_pop hx hb dX10_walks_210 rfl ?_
    refine lv_iload hx hb dX10_walks_211 (lv_at hl 5 rfl) ?_
    refine lv_iconst (v := iZ 2) hx hb dX10_walks_213 rfl ?_
    refine fz_icmp_ne (tgt := 237) (by decide) (by decide) hx hb dX10_walks_214 (by decide) (fun c214_ => ?_) (fun h9 => absurd h9 (by decide))
    refine lv_iload hx hb dX10_walks_237 (lv_at hl 5 rfl) ?_
    refine lv_iconst (v := iZ 3) hx hb dX10_walks_239 rfl ?_
    refine fz_icmp_ne (tgt := 262) (by decide) (by decide) hx hb dX10_walks_240 (by decide) (fun c240_ => ?_) (fun h9 => absurd h9 (by decide))
    refine lv_iload hx hb dX10_walks_262 (lv_at hl 5 rfl) ?_
    refine lv_iconst (v := iZ 4) hx hb dX10_walks_264 rfl ?_
    refine fz_icmp_ne (tgt := 277) (by decide) (by decide) hx hb dX10_walks_265 (by decide) (fun c265_ => ?_) (fun h9 => absurd h9 (by decide))
    refine lv_iload hx hb dX10_walks_277 (lv_at hl 5 rfl) ?_
    refine lv_iconst (v := iZ 5) hx hb dX10_walks_279 rfl ?_
    refine fz_icmp_ne (tgt := 292) (by decide) (by decide) hx hb dX10_walks_280 (by decide) (fun c280_ => ?_) (fun h9 => absurd h9 (by decide))
    refine lv_iload hx hb dX10_walks_292 (lv_at hl 6 rfl) ?_
    refine lv_iload hx hb dX10_walks_294 (lv_at hl 5 rfl) ?_
    refine lv_iconst (v := iZ 3) hx hb dX10_walks_296 rfl ?_
    refine fz_icmp_gt (tgt := 320) (by decide) (by decide) hx hb dX10_walks_297 (by decide) (fun h9 => absurd h9 (by decide)) (fun c297_ => ?_)
    refine lv_iload hx hb dX10_walks_300 (lv_at hl 5 rfl) ?_
    refine lv_iconst (v := iZ 2) hx hb dX10_walks_302 rfl ?_
    refine fz_icmp_ne (tgt := 324) (by decide) (by decide) hx hb dX10_walks_303 (by decide) (fun c303_ => ?_) (fun h9 => absurd h9 (by decide))
    refine lv_iconst (v := iZ 0) hx hb dX10_walks_324 rfl ?_
    refine lv_iand hx hb dX10_walks_325 ?_
    refine lv_topi (fun x9 ex9 => ?_)
    obtain ⟨z1, rfl, hz1⟩ := iZ_ex x9
    have ez1 := ex9; clear ex9
    refine lv_istore (lv' := [(7, .int (iZ (z1))), (13, .int (iZ (0))), (12, .int (iZ (u1))), (11, .int (iZ (t))), (10, .int (iZ (x93_0))), (9, .int (iZ (x67_0))), (8, .int (iZ (1))), (6, .int (iZ (y))), (5, .int (iZ (0))), (4, .int (iZ (j))), (3, .int (iZ (i))), (2, .int (iZ (o1))), (1, .int (iZ (n))), (0, .ref h0)]) hx hb dX10_walks_326 hl (by decide) rfl (fun ls hl => ?_)
    refine lv_iload_n hx hb dX10_walks_328 rfl (lv_at hl 10 rfl) ?_
    refine lv_iload hx hb dX10_walks_329 (lv_at hl 6 rfl) ?_
    refine lv_iconst (v := iZ 3) hx hb dX10_walks_331 rfl ?_
    refine fz_icmp_ne (tgt := 346) (by decide) (by decide) hx hb dX10_walks_332 (by decide) (fun c332_ => ?_) (fun h9 => absurd h9 (by decide))
    refine lv_iload hx hb dX10_walks_346 (lv_at hl 6 rfl) ?_
    refine lv_iconst (v := iZ 5) hx hb dX10_walks_348 rfl ?_
    refine fz_icmp_ne (tgt := 356) (by decide) (by decide) hx hb dX10_walks_349 (by decide) (fun c349_ => ?_) (fun h9 => absurd h9 (by decide))
    refine lv_iconst (v := iZ 1) hx hb dX10_walks_356 rfl ?_
    refine lv_iadd hx hb dX10_walks_357 ?_
    refine lv_topi (fun x9 ex9 => ?_)
    obtain rfl : x9 = iZ (i + 1) := ex9.trans (iZ_add _ _)
    refine lv_istore_n (lv' := [(3, .int (iZ (i + 1))), (7, .int (iZ (z1))), (13, .int (iZ (0))), (12, .int (iZ (u1))), (11, .int (iZ (t))), (10, .int (iZ (x93_0))), (9, .int (iZ (x67_0))), (8, .int (iZ (1))), (6, .int (iZ (y))), (5, .int (iZ (0))), (4, .int (iZ (j))), (2, .int (iZ (o1))), (1, .int (iZ (n))), (0, .ref h0)]) hx hb dX10_walks_358 rfl hl (by decide) rfl (fun ls hl => ?_)
    refine lv_iload hx hb dX10_walks_359 (lv_at hl 10 rfl) ?_
    refine lv_iload hx hb dX10_walks_361 (lv_at hl 7 rfl) ?_
    refine lv_iconst (v := iZ 2) hx hb dX10_walks_363 rfl ?_
    refine fz_icmp_ne (tgt := 378) (by decide) (by decide) hx hb dX10_walks_364 (by decide) (fun c364_ => ?_) (fun h9 => absurd h9 (by decide))
    refine lv_iload hx hb dX10_walks_378 (lv_at hl 7 rfl) ?_
    refine lv_iconst (v := iZ 4) hx hb dX10_walks_380 rfl ?_
    refine fz_icmp_ne (tgt := 388) (by decide) (by decide) hx hb dX10_walks_381 (by decide) (fun c381_ => ?_) (fun h9 => absurd h9 (by decide))
    refine lv_iconst (v := iZ 1) hx hb dX10_walks_388 rfl ?_
    refine lv_iadd hx hb dX10_walks_389 ?_
    refine lv_topi (fun x9 ex9 => ?_)
    obtain rfl : x9 = iZ (j + 1) := ex9.trans (iZ_add _ _)
    refine lv_istore (lv' := [(4, .int (iZ (j + 1))), (3, .int (iZ (i + 1))), (7, .int (iZ (z1))), (13, .int (iZ (0))), (12, .int (iZ (u1))), (11, .int (iZ (t))), (10, .int (iZ (x93_0))), (9, .int (iZ (x67_0))), (8, .int (iZ (1))), (6, .int (iZ (y))), (5, .int (iZ (0))), (2, .int (iZ (o1))), (1, .int (iZ (n))), (0, .ref h0)]) hx hb dX10_walks_390 hl (by decide) rfl (fun ls hl => ?_)
    refine lv_goto (tgt := 14) hx hb dX10_walks_392 (by decide) ?_
    exact ih (i + 1) (j + 1) (0) (y) (z1) μm H locs ls (by
                rw [show (i + 1).toNat = i.toNat + 1 by (first | ((try clear hne9); (try clear hj35_0); (try clear hj67_0); (try clear hj93_0); (try clear ho9); (try clear htu); show_term (have zq25 : True := trivial; omega)) | show_term (have zq25 : True := trivial; omega)), show (j + 1).toNat = j.toNat + 1 by (first | ((try clear hne9); (try clear hj35_0); (try clear hj67_0); (try clear hj93_0); (try clear ho9); (try clear htu); show_term (have zq26 : True := trivial; omega)) | show_term (have zq26 : True := trivial; omega)), sS, pS]
                rw [show (0 : Int).toNat = 0 from rfl, wk_01]
                exact hN) (by (first | ((try clear hne9); (try clear hj35_0); (try clear hj67_0); (try clear hj93_0); (try clear ho9); (try clear htu); show_term (have zq27 : True := trivial; omega)) | show_term (have zq27 : True := trivial; omega))) (by (first | ((try clear hne9); (try clear hj35_0); (try clear hj67_0); (try clear hj93_0); (try clear ho9); (try clear htu); show_term (have zq28 : True := trivial; omega)) | show_term (have zq28 : True := trivial; omega))) (by first | exact Or.inl rfl | exact Or.inr (Or.inl rfl) | exact Or.inr (Or.inr rfl)) (by
                rw [show (i + 1).toNat = i.toNat + 1 by (first | ((try clear hne9); (try clear hj35_0); (try clear hj67_0); (try clear hj93_0); (try clear ho9); (try clear htu); show_term (have zq29 : True := trivial; omega)) | show_term (have zq29 : True := trivial; omega)), show (j + 1).toNat = j.toNat + 1 by (first | ((try clear hne9); (try clear hj35_0); (try clear hj67_0); (try clear hj93_0); (try clear ho9); (try clear htu); show_term (have zq30 : True := trivial; omega)) | show_term (have zq30 : True := trivial; omega)), sS, pS]
                obtain ⟨a1_, a2_, a3_, a4_, a5_⟩ := al_is (Or.inl rfl) hmn
                exact alI_and0 hz1 ez1 hal (a1_ hy9)) (by (first | ((try clear hne9); (try clear hj35_0); (try clear hj67_0); (try clear hj93_0); (try clear ho9); (try clear htu); show_term (have zq31 : True := trivial; omega)) | show_term (have zq31 : True := trivial; omega))) hP hS (lv_sub hl [2, 9, 10, 0, 1, 11, 12, 13] rfl)
  · clear ho9
    refine lv_iload hx hb dX10_walks_111 (lv_at hl 4 rfl) ?_
    refine lv_iconst (v := iZ 5) hx hb dX10_walks_113 rfl ?_
    refine fz_icmp_eq (tgt := 137) (by decide) (by decide) hx hb dX10_walks_114 (by decide) (fun h9 => absurd h9 (by decide)) (fun c114_ => ?_)
    refine lv_iload hx hb dX10_walks_117 (lv_at hl 4 rfl) ?_
    refine lv_iconst (v := iZ 4) hx hb dX10_walks_119 rfl ?_
    refine fz_icmp_ne (tgt := 141) (by decide) (by decide) hx hb dX10_walks_120 (by decide) (fun c120_ => ?_) (fun h9 => absurd h9 (by decide))
    refine lv_iconst (v := iZ 0) hx hb dX10_walks_141 rfl ?_
    refine lv_istore (lv' := [(13, .int (iZ (0))), (12, .int (iZ (u1))), (11, .int (iZ (t))), (10, .int (iZ (x93_0))), (9, .int (iZ (x67_0))), (8, .int (iZ (1))), (7, .int (iZ (al))), (6, .int (iZ (y))), (5, .int (iZ (4))), (4, .int (iZ (j))), (3, .int (iZ (i))), (2, .int (iZ (o1))), (1, .int (iZ (n))), (0, .ref h0)]) hx hb dX10_walks_142 hl (by decide) rfl (fun ls hl => ?_)
    refine lv_iload hx hb dX10_walks_144 (lv_at hl 8 rfl) ?_
    refine fz_if_le (tgt := 171) (by decide) hx hb dX10_walks_146 (by decide) (fun h9 => absurd h9 (by decide)) (fun c146_ => ?_)
    refine lv_iload hx hb dX10_walks_149 (lv_at hl 0 rfl) ?_
    refine fz_if_eq (tgt := 161) (by decide) hx hb dX10_walks_151 (by decide) (fun c151_ => ?_) (fun h9 => absurd h9 (by decide))
    refine lv_aload_n hx hb dX10_walks_161 rfl (lv_at hl 13 rfl) ?_
    refine lv_iload_n hx hb dX10_walks_162 rfl (lv_at hl 11 rfl) ?_
    refine lv_iload hx hb dX10_walks_163 (lv_at hl 7 rfl) ?_
    refine va_callv (va_runV (As := [.int (iZ (o1)), .int (iZ (y))]) (rest := []) ⟨hx, hb, hml, hown, hts⟩ (m_closes l dC dI cI cZ cII cIII h0 H.size μ (o1) (y) (by first | assumption | ((try clear hne9); (try clear hj35_0); (try clear hj67_0); (try clear hj93_0); (try clear ho9); (try clear htu); show_term (have zq32 : True := trivial; omega)) | show_term (have zq32 : True := trivial; omega) | exact ⟨by (first | ((try clear hne9); (try clear hj35_0); (try clear hj67_0); (try clear hj93_0); (try clear ho9); (try clear htu); show_term (have zq33 : True := trivial; omega)) | show_term (have zq33 : True := trivial; omega)), by (first | ((try clear hne9); (try clear hj35_0); (try clear hj67_0); (try clear hj93_0); (try clear ho9); (try clear htu); show_term (have zq34 : True := trivial; omega)) | show_term (have zq34 : True := trivial; omega))⟩) (by intro h; exact (wSt_cap hwc hcap h).2.2 (by (first | ((try clear hne9); (try clear hj35_0); (try clear hj67_0); (try clear hj93_0); (try clear ho9); (try clear htu); show_term (have zq35 : True := trivial; omega)) | show_term (have zq35 : True := trivial; omega))))) (cwV 2 hts (gV_G k1420 k1422 ks_yX10_closes k13 k1423) rfl rfl rfl (by decide +kernel) ⟨by show 1 + 1 ≤ _; show_term (have zq36 : True := trivial; omega), by show 8 + (3 + 11) + (14) ≤ _; show_term (have zq37 : True := trivial; omega)⟩) ⟨fun a U g mk q => by obtain ⟨q0, q1, qP, qK⟩ := q; exact ⟨q0, q1, qP, va_K.moved (u := U) (U := U.calling g mk a) (Vm.Alike.refl U.vm) qK⟩, va_recv hK hP (ci := 10) (q0 := 0) rfl ((fw_get (by decide)).trans (by rw [mE_obj]; rfl)), fun U hU hW => ⟨rfl, by rw [hU], by rw [hU]; exact hP, va_K.moved hW.alike hK⟩⟩ rfl rfl hl.1 rfl (lv_room (Nat.le_of_ble_eq_true rfl)) dX10_walks_165 ⟨hRc, hRs⟩) hS (fun q _ h => fA_le hS.1 q h) (fA_le hS.1) (fun u9 t9 H1 locs ht9 hvm9 hw9 hB9 hz9 hk9 hS => ?_)
    obtain ⟨hP, -⟩ := hB9
    rw [ht9] at hP
    generalize H1 = H at hP hS ⊢
    obtain ⟨μd, eμd⟩ : ∃ x : va_M, x = u9 := ⟨_, rfl⟩
    rw [← eμd] at hP hw9
    have hμd := hw9; clear hw9
    have hC := wSt_close hwc (by (first | ((try clear hne9); (try clear hj35_0); (try clear hj67_0); (try clear hj93_0); (try clear ho9); (try clear htu); show_term (have zq38 : True := trivial; omega)) | show_term (have zq38 : True := trivial; omega))) (by (first | ((try clear hne9); (try clear hj35_0); (try clear hj67_0); (try clear hj93_0); (try clear ho9); (try clear htu); show_term (have zq39 : True := trivial; omega)) | show_term (have zq39 : True := trivial; omega))) hμd y
    refine lv_iconst (v := iZ 0) hx hb dX10_walks_168 rfl ?_
    refine lv_istore (lv' := [(5, .int (iZ (0))), (13, .int (iZ (0))), (12, .int (iZ (u1))), (11, .int (iZ (t))), (10, .int (iZ (x93_0))), (9, .int (iZ (x67_0))), (8, .int (iZ (1))), (7, .int (iZ (al))), (6, .int (iZ (y))), (4, .int (iZ (j))), (3, .int (iZ (i))), (2, .int (iZ (o1))), (1, .int (iZ (n))), (0, .ref h0)]) hx hb dX10_walks_169 hl (by decide) rfl (fun ls hl => ?_)
    have hLx := lvS_wSt hL hC (by (first | ((try clear hne9); (try clear hj35_0); (try clear hj67_0); (try clear hj93_0); (try clear ho9); (try clear htu); show_term (have zq40 : True := trivial; omega)) | show_term (have zq40 : True := trivial; omega))) ht hu ho
    have sIA : IA μd t.toNat x67_0.toNat ks vs la := by rw [hx_s]; exact IA_S hLx (by (first | ((try clear hne9); (try clear hj35_0); (try clear hj67_0); (try clear hj93_0); (try clear ho9); (try clear htu); show_term (have zq41 : True := trivial; omega)) | show_term (have zq41 : True := trivial; omega))) hes
    have pIA : IA μd u1.toNat x93_0.toNat kp vp lb := by rw [hx_p_]; exact IA_P hLx (by (first | ((try clear hne9); (try clear hj35_0); (try clear hj67_0); (try clear hj93_0); (try clear ho9); (try clear htu); show_term (have zq42 : True := trivial; omega)) | show_term (have zq42 : True := trivial; omega))) hep
    refine lv_iload hx hb dX10_walks_171 (lv_at hl 1 rfl) ?_
    refine fz_if_eq (tgt := 194) (by decide) hx hb dX10_walks_173 (by decide) (fun c173_ => ?_) (fun h9 => absurd h9 (by decide))
    refine lv_iload hx hb dX10_walks_194 (lv_at hl 6 rfl) ?_
    refine lv_iconst (v := iZ 1) hx hb dX10_walks_196 rfl ?_
    refine fz_icmp_ne (tgt := 211) (by decide) (by decide) hx hb dX10_walks_197 (by decide) (fun h9 => absurd h9 (by decide)) (fun c197_ => ?_)
    refine lv_aload_n hx hb dX10_walks_200 rfl (lv_at hl 13 rfl) ?_
    refine lv_iload_n hx hb dX10_walks_201 rfl (lv_at hl 12 rfl) ?_
    refine lv_iload hx hb dX10_walks_202 (lv_at hl 5 rfl) ?_
    refine lv_iload hx hb dX10_walks_204 (lv_at hl 4 rfl) ?_
    refine lv_iload_n hx hb dX10_walks_206 rfl (lv_at hl 11 rfl) ?_
    refine va_calli (va_runV (As := [.int (iZ (n)), .int (iZ (x67_0)), .int (iZ (x93_0)), .int (iZ (o1))]) (rest := []) ⟨hx, hb, hml, hown, hts⟩ (m_meets l dC dI cI cZ cII cIII h0 (d9) H.size μd (n) (x67_0) (x93_0) (o1) (t) (u1) (ks) (vs) (la) (kp) (vp) (lb) (by exact hLR) (by (first | ((try clear hne9); (try clear hj35_0); (try clear hj67_0); (try clear hj93_0); (try clear ho9); (try clear htu); show_term (have zq43 : True := trivial; omega)) | show_term (have zq43 : True := trivial; omega))) (by exact ⟨hLx.1, hLx.2.1⟩) (by first | assumption | ((try clear hne9); (try clear hj35_0); (try clear hj67_0); (try clear hj93_0); (try clear ho9); (try clear htu); show_term (have zq44 : True := trivial; omega)) | show_term (have zq44 : True := trivial; omega) | exact ⟨by (first | ((try clear hne9); (try clear hj35_0); (try clear hj67_0); (try clear hj93_0); (try clear ho9); (try clear htu); show_term (have zq45 : True := trivial; omega)) | show_term (have zq45 : True := trivial; omega)), by (first | ((try clear hne9); (try clear hj35_0); (try clear hj67_0); (try clear hj93_0); (try clear ho9); (try clear htu); show_term (have zq46 : True := trivial; omega)) | show_term (have zq46 : True := trivial; omega))⟩) (by first | assumption | ((try clear hne9); (try clear hj35_0); (try clear hj67_0); (try clear hj93_0); (try clear ho9); (try clear htu); show_term (have zq47 : True := trivial; omega)) | show_term (have zq47 : True := trivial; omega) | exact ⟨by (first | ((try clear hne9); (try clear hj35_0); (try clear hj67_0); (try clear hj93_0); (try clear ho9); (try clear htu); show_term (have zq48 : True := trivial; omega)) | show_term (have zq48 : True := trivial; omega)), by (first | ((try clear hne9); (try clear hj35_0); (try clear hj67_0); (try clear hj93_0); (try clear ho9); (try clear htu); show_term (have zq49 : True := trivial; omega)) | show_term (have zq49 : True := trivial; omega))⟩) (by (first | ((try clear hne9); (try clear hj35_0); (try clear hj67_0); (try clear hj93_0); (try clear ho9); (try clear htu); show_term (have zq50 : True := trivial; omega)) | show_term (have zq50 : True := trivial; omega))) (by (first | ((try clear hne9); (try clear hj35_0); (try clear hj67_0); (try clear hj93_0); (try clear ho9); (try clear htu); show_term (have zq51 : True := trivial; omega)) | show_term (have zq51 : True := trivial; omega))) (by exact sIA) (by exact pIA) (by exact sF) (by exact pF) (by (first | ((try clear hne9); (try clear hj35_0); (try clear hj67_0); (try clear hj93_0); (try clear ho9); (try clear htu); show_term (have zq52 : True := trivial; omega)) | show_term (have zq52 : True := trivial; omega))) (by (first | ((try clear hne9); (try clear hj35_0); (try clear hj67_0); (try clear hj93_0); (try clear ho9); (try clear htu); show_term (have zq53 : True := trivial; omega)) | show_term (have zq53 : True := trivial; omega))) (by intro h; have h9 := wSt_cap hC hcap h; rw [mtR_N] at h9; show_term (have zq54 : True := trivial; omega)) (by intro h; exact way1_c hy9 hmn) (by (first | ((try clear hne9); (try clear hj35_0); (try clear hj67_0); (try clear hj93_0); (try clear ho9); (try clear htu); show_term (have zq55 : True := trivial; omega)) | show_term (have zq55 : True := trivial; omega)))) (cwV 4 hts (gV_G k1552 k1554 ks_yX10_meets k13 k1555) rfl rfl rfl (by decide +kernel) ⟨by show 5 * d9 + 32 + 1 + 1 ≤ _; show_term (have zq56 : True := trivial; omega), by show 8 + (10 + 11) + (200 * d9 + 900 + 40) ≤ _; show_term (have zq57 : True := trivial; omega)⟩) ⟨fun a U g mk q => by obtain ⟨q0, q1, qP, qK⟩ := q; exact ⟨q0, q1, qP, va_K.moved (u := U) (U := U.calling g mk a) (Vm.Alike.refl U.vm) qK⟩, va_recv hK hP (ci := 10) (q0 := 0) rfl ((fw_get (by decide)).trans (by rw [mE_obj]; rfl)), fun U hU hW => ⟨rfl, by rw [hU], by rw [hU]; exact hP, va_K.moved hW.alike hK⟩⟩ rfl rfl hl.1 rfl (lv_room (Nat.le_of_ble_eq_true rfl)) dX10_walks_207 ⟨hRc, hRs⟩) hS (fun q _ h => fA_le hS.1 q h) (fA_le hS.1) (fun r9 u9 t9 H1 locs ht9 hvm9 hw9 hB9 hz9 hk9 hS => ?_)
    obtain ⟨μm, rm⟩ := u9
    obtain ⟨hP, -⟩ := hB9
    rw [ht9] at hP
    generalize H1 = H at hP hS ⊢
    obtain ⟨e9, hw9⟩ := hw9
    have e9 : r9 = iZ rm := e9
    subst e9
    simp only at hP hw9
    have hμm := hw9; clear hw9
    have hN := wSt_mt hC (by (first | ((try clear hne9); (try clear hj35_0); (try clear hj67_0); (try clear hj93_0); (try clear ho9); (try clear htu); show_term (have zq58 : True := trivial; omega)) | show_term (have zq58 : True := trivial; omega))) hμm.2 y
    refine lv_pop hx hb dX10_walks_210 rfl ?_
    refine lv_iload hx hb dX10_walks_211 (lv_at hl 6 rfl) ?_
    refine lv_iconst (v := iZ 2) hx hb dX10_walks_213 rfl ?_
    refine fz_icmp_ne (tgt := 237) (by decide) (by decide) hx hb dX10_walks_214 (by decide) (fun c214_ => ?_) (fun h9 => absurd h9 (by decide))
    refine lv_iload hx hb dX10_walks_237 (lv_at hl 6 rfl) ?_
    refine lv_iconst (v := iZ 3) hx hb dX10_walks_239 rfl ?_
    refine fz_icmp_ne (tgt := 262) (by decide) (by decide) hx hb dX10_walks_240 (by decide) (fun c240_ => ?_) (fun h9 => absurd h9 (by decide))
    refine lv_iload hx hb dX10_walks_262 (lv_at hl 6 rfl) ?_
    refine lv_iconst (v := iZ 4) hx hb dX10_walks_264 rfl ?_
    refine fz_icmp_ne (tgt := 277) (by decide) (by decide) hx hb dX10_walks_265 (by decide) (fun c265_ => ?_) (fun h9 => absurd h9 (by decide))
    refine lv_iload hx hb dX10_walks_277 (lv_at hl 6 rfl) ?_
    refine lv_iconst (v := iZ 5) hx hb dX10_walks_279 rfl ?_
    refine fz_icmp_ne (tgt := 292) (by decide) (by decide) hx hb dX10_walks_280 (by decide) (fun c280_ => ?_) (fun h9 => absurd h9 (by decide))
    refine lv_iload hx hb dX10_walks_292 (lv_at hl 7 rfl) ?_
    refine lv_iload hx hb dX10_walks_294 (lv_at hl 6 rfl) ?_
    refine lv_iconst (v := iZ 3) hx hb dX10_walks_296 rfl ?_
    refine fz_icmp_gt (tgt := 320) (by decide) (by decide) hx hb dX10_walks_297 (by decide) (fun h9 => absurd h9 (by decide)) (fun c297_ => ?_)
    refine lv_iload hx hb dX10_walks_300 (lv_at hl 6 rfl) ?_
    refine lv_iconst (v := iZ 2) hx hb dX10_walks_302 rfl ?_
    refine fz_icmp_ne (tgt := 324) (by decide) (by decide) hx hb dX10_walks_303 (by decide) (fun c303_ => ?_) (fun h9 => absurd h9 (by decide))
    refine lv_iconst (v := iZ 0) hx hb dX10_walks_324 rfl ?_
    refine lv_iand hx hb dX10_walks_325 ?_
    refine lv_topi (fun x9 ex9 => ?_)
    obtain ⟨z2, rfl, hz2⟩ := iZ_ex x9
    have ez2 := ex9; clear ex9
    refine lv_istore (lv' := [(7, .int (iZ (z2))), (5, .int (iZ (0))), (13, .int (iZ (0))), (12, .int (iZ (u1))), (11, .int (iZ (t))), (10, .int (iZ (x93_0))), (9, .int (iZ (x67_0))), (8, .int (iZ (1))), (6, .int (iZ (y))), (4, .int (iZ (j))), (3, .int (iZ (i))), (2, .int (iZ (o1))), (1, .int (iZ (n))), (0, .ref h0)]) hx hb dX10_walks_326 hl (by decide) rfl (fun ls hl => ?_)
    refine lv_iload_n hx hb dX10_walks_328 rfl (lv_at hl 10 rfl) ?_
    refine lv_iload hx hb dX10_walks_329 (lv_at hl 7 rfl) ?_
    refine lv_iconst (v := iZ 3) hx hb dX10_walks_331 rfl ?_
    refine fz_icmp_ne (tgt := 346) (by decide) (by decide) hx hb dX10_walks_332 (by decide) (fun c332_ => ?_) (fun h9 => absurd h9 (by decide))
    refine lv_iload hx hb dX10_walks_346 (lv_at hl 7 rfl) ?_
    refine lv_iconst (v := iZ 5) hx hb dX10_walks_348 rfl ?_
    refine fz_icmp_ne (tgt := 356) (by decide) (by decide) hx hb dX10_walks_349 (by decide) (fun c349_ => ?_) (fun h9 => absurd h9 (by decide))
    refine lv_iconst (v := iZ 1) hx hb dX10_walks_356 rfl ?_
    refine lv_iadd hx hb dX10_walks_357 ?_
    refine lv_topi (fun x9 ex9 => ?_)
    obtain rfl : x9 = iZ (i + 1) := ex9.trans (iZ_add _ _)
    refine lv_istore_n (lv' := [(3, .int (iZ (i + 1))), (7, .int (iZ (z2))), (5, .int (iZ (0))), (13, .int (iZ (0))), (12, .int (iZ (u1))), (11, .int (iZ (t))), (10, .int (iZ (x93_0))), (9, .int (iZ (x67_0))), (8, .int (iZ (1))), (6, .int (iZ (y))), (4, .int (iZ (j))), (2, .int (iZ (o1))), (1, .int (iZ (n))), (0, .ref h0)]) hx hb dX10_walks_358 rfl hl (by decide) rfl (fun ls hl => ?_)
    refine lv_iload hx hb dX10_walks_359 (lv_at hl 10 rfl) ?_
    refine lv_iload hx hb dX10_walks_361 (lv_at hl 8 rfl) ?_
    refine lv_iconst (v := iZ 2) hx hb dX10_walks_363 rfl ?_
    refine fz_icmp_ne (tgt := 378) (by decide) (by decide) hx hb dX10_walks_364 (by decide) (fun c364_ => ?_) (fun h9 => absurd h9 (by decide))
    refine lv_iload hx hb dX10_walks_378 (lv_at hl 8 rfl) ?_
    refine lv_iconst (v := iZ 4) hx hb dX10_walks_380 rfl ?_
    refine fz_icmp_ne (tgt := 388) (by decide) (by decide) hx hb dX10_walks_381 (by decide) (fun c381_ => ?_) (fun h9 => absurd h9 (by decide))
    refine lv_iconst (v := iZ 1) hx hb dX10_walks_388 rfl ?_
    refine lv_iadd hx hb dX10_walks_389 ?_
    refine lv_topi (fun x9 ex9 => ?_)
    obtain rfl : x9 = iZ (j + 1) := ex9.trans (iZ_add _ _)
    refine lv_istore (lv' := [(4, .int (iZ (j + 1))), (3, .int (iZ (i + 1))), (7, .int (iZ (z2))), (5, .int (iZ (0))), (13, .int (iZ (0))), (12, .int (iZ (u1))), (11, .int (iZ (t))), (10, .int (iZ (x93_0))), (9, .int (iZ (x67_0))), (8, .int (iZ (1))), (6, .int (iZ (y))), (2, .int (iZ (o1))), (1, .int (iZ (n))), (0, .ref h0)]) hx hb dX10_walks_390 hl (by decide) rfl (fun ls hl => ?_)
    refine lv_goto (tgt := 14) hx hb dX10_walks_392 (by decide) ?_
    exact ih (i + 1) (j + 1) (0) (y) (z2) μm H locs ls (by
                rw [show (i + 1).toNat = i.toNat + 1 by (first | ((try clear hne9); (try clear hj35_0); (try clear hj67_0); (try clear hj93_0); (try clear ho9); (try clear htu); show_term (have zq59 : True := trivial; omega)) | show_term (have zq59 : True := trivial; omega)), show (j + 1).toNat = j.toNat + 1 by (first | ((try clear hne9); (try clear hj35_0); (try clear hj67_0); (try clear hj93_0); (try clear ho9); (try clear htu); show_term (have zq60 : True := trivial; omega)) | show_term (have zq60 : True := trivial; omega)), sS, pS]
                rw [show (0 : Int).toNat = 0 from rfl, wk_01]
                exact hN) (by (first | ((try clear hne9); (try clear hj35_0); (try clear hj67_0); (try clear hj93_0); (try clear ho9); (try clear htu); show_term (have zq61 : True := trivial; omega)) | show_term (have zq61 : True := trivial; omega))) (by (first | ((try clear hne9); (try clear hj35_0); (try clear hj67_0); (try clear hj93_0); (try clear ho9); (try clear htu); show_term (have zq62 : True := trivial; omega)) | show_term (have zq62 : True := trivial; omega))) (by first | exact Or.inl rfl | exact Or.inr (Or.inl rfl) | exact Or.inr (Or.inr rfl)) (by
                rw [show (i + 1).toNat = i.toNat + 1 by (first | ((try clear hne9); (try clear hj35_0); (try clear hj67_0); (try clear hj93_0); (try clear ho9); (try clear htu); show_term (have zq63 : True := trivial; omega)) | show_term (have zq63 : True := trivial; omega)), show (j + 1).toNat = j.toNat + 1 by (first | ((try clear hne9); (try clear hj35_0); (try clear hj67_0); (try clear hj93_0); (try clear ho9); (try clear htu); show_term (have zq64 : True := trivial; omega)) | show_term (have zq64 : True := trivial; omega)), sS, pS]
                obtain ⟨a1_, a2_, a3_, a4_, a5_⟩ := al_is (Or.inl rfl) hmn
                exact alI_and0 hz2 ez2 hal (a1_ hy9)) (by (first | ((try clear hne9); (try clear hj35_0); (try clear hj67_0); (try clear hj93_0); (try clear ho9); (try clear htu); show_term (have zq65 : True := trivial; omega)) | show_term (have zq65 : True := trivial; omega))) hP hS (lv_sub hl [2, 10, 3, 0, 1, 11, 12, 13] rfl)
  · clear ho9
    refine lv_iload hx hb dX10_walks_111 (lv_at hl 4 rfl) ?_
    refine lv_iconst (v := iZ 5) hx hb dX10_walks_113 rfl ?_
    refine fz_icmp_eq (tgt := 137) (by decide) (by decide) hx hb dX10_walks_114 (by decide) (fun h9 => absurd h9 (by decide)) (fun c114_ => ?_)
    refine lv_iload hx hb dX10_walks_117 (lv_at hl 4 rfl) ?_
    refine lv_iconst (v := iZ 4) hx hb dX10_walks_119 rfl ?_
    refine fz_icmp_ne (tgt := 141) (by decide) (by decide) hx hb dX10_walks_120 (by decide) (fun c120_ => ?_) (fun h9 => absurd h9 (by decide))
    refine lv_iconst (v := iZ 0) hx hb dX10_walks_141 rfl ?_
    refine lv_istore (lv' := [(13, .int (iZ (0))), (12, .int (iZ (u1))), (11, .int (iZ (t))), (10, .int (iZ (x93_0))), (9, .int (iZ (x67_0))), (8, .int (iZ (1))), (7, .int (iZ (al))), (6, .int (iZ (y))), (5, .int (iZ (5))), (4, .int (iZ (j))), (3, .int (iZ (i))), (2, .int (iZ (o1))), (1, .int (iZ (n))), (0, .ref h0)]) hx hb dX10_walks_142 hl (by decide) rfl (fun ls hl => ?_)
    refine lv_iload hx hb dX10_walks_144 (lv_at hl 8 rfl) ?_
    refine fz_if_le (tgt := 171) (by decide) hx hb dX10_walks_146 (by decide) (fun h9 => absurd h9 (by decide)) (fun c146_ => ?_)
    refine lv_iload hx hb dX10_walks_149 (lv_at hl 0 rfl) ?_
    refine fz_if_eq (tgt := 161) (by decide) hx hb dX10_walks_151 (by decide) (fun c151_ => ?_) (fun h9 => absurd h9 (by decide))
    refine lv_aload_n hx hb dX10_walks_161 rfl (lv_at hl 13 rfl) ?_
    refine lv_iload_n hx hb dX10_walks_162 rfl (lv_at hl 11 rfl) ?_
    refine lv_iload hx hb dX10_walks_163 (lv_at hl 7 rfl) ?_
    refine va_callv (va_runV (As := [.int (iZ (o1)), .int (iZ (y))]) (rest := []) ⟨hx, hb, hml, hown, hts⟩ (m_closes l dC dI cI cZ cII cIII h0 H.size μ (o1) (y) (by first | assumption | ((try clear hne9); (try clear hj35_0); (try clear hj67_0); (try clear hj93_0); (try clear ho9); (try clear htu); show_term (have zq66 : True := trivial; omega)) | show_term (have zq66 : True := trivial; omega) | exact ⟨by (first | ((try clear hne9); (try clear hj35_0); (try clear hj67_0); (try clear hj93_0); (try clear ho9); (try clear htu); show_term (have zq67 : True := trivial; omega)) | show_term (have zq67 : True := trivial; omega)), by (first | ((try clear hne9); (try clear hj35_0); (try clear hj67_0); (try clear hj93_0); (try clear ho9); (try clear htu); show_term (have zq68 : True := trivial; omega)) | show_term (have zq68 : True := trivial; omega))⟩) (by intro h; exact (wSt_cap hwc hcap h).2.2 (by (first | ((try clear hne9); (try clear hj35_0); (try clear hj67_0); (try clear hj93_0); (try clear ho9); (try clear htu); show_term (have zq69 : True := trivial; omega)) | show_term (have zq69 : True := trivial; omega))))) (cwV 2 hts (gV_G k1420 k1422 ks_yX10_closes k13 k1423) rfl rfl rfl (by decide +kernel) ⟨by show 1 + 1 ≤ _; show_term (have zq70 : True := trivial; omega), by show 8 + (3 + 11) + (14) ≤ _; show_term (have zq71 : True := trivial; omega)⟩) ⟨fun a U g mk q => by obtain ⟨q0, q1, qP, qK⟩ := q; exact ⟨q0, q1, qP, va_K.moved (u := U) (U := U.calling g mk a) (Vm.Alike.refl U.vm) qK⟩, va_recv hK hP (ci := 10) (q0 := 0) rfl ((fw_get (by decide)).trans (by rw [mE_obj]; rfl)), fun U hU hW => ⟨rfl, by rw [hU], by rw [hU]; exact hP, va_K.moved hW.alike hK⟩⟩ rfl rfl hl.1 rfl (lv_room (Nat.le_of_ble_eq_true rfl)) dX10_walks_165 ⟨hRc, hRs⟩) hS (fun q _ h => fA_le hS.1 q h) (fA_le hS.1) (fun u9 t9 H1 locs ht9 hvm9 hw9 hB9 hz9 hk9 hS => ?_)
    obtain ⟨hP, -⟩ := hB9
    rw [ht9] at hP
    generalize H1 = H at hP hS ⊢
    obtain ⟨μd, eμd⟩ : ∃ x : va_M, x = u9 := ⟨_, rfl⟩
    rw [← eμd] at hP hw9
    have hμd := hw9; clear hw9
    have hC := wSt_close hwc (by (first | ((try clear hne9); (try clear hj35_0); (try clear hj67_0); (try clear hj93_0); (try clear ho9); (try clear htu); show_term (have zq72 : True := trivial; omega)) | show_term (have zq72 : True := trivial; omega))) (by (first | ((try clear hne9); (try clear hj35_0); (try clear hj67_0); (try clear hj93_0); (try clear ho9); (try clear htu); show_term (have zq73 : True := trivial; omega)) | show_term (have zq73 : True := trivial; omega))) hμd y
    refine lv_iconst (v := iZ 0) hx hb dX10_walks_168 rfl ?_
    refine lv_istore (lv' := [(5, .int (iZ (0))), (13, .int (iZ (0))), (12, .int (iZ (u1))), (11, .int (iZ (t))), (10, .int (iZ (x93_0))), (9, .int (iZ (x67_0))), (8, .int (iZ (1))), (7, .int (iZ (al))), (6, .int (iZ (y))), (4, .int (iZ (j))), (3, .int (iZ (i))), (2, .int (iZ (o1))), (1, .int (iZ (n))), (0, .ref h0)]) hx hb dX10_walks_169 hl (by decide) rfl (fun ls hl => ?_)
    have hLx := lvS_wSt hL hC (by (first | ((try clear hne9); (try clear hj35_0); (try clear hj67_0); (try clear hj93_0); (try clear ho9); (try clear htu); show_term (have zq74 : True := trivial; omega)) | show_term (have zq74 : True := trivial; omega))) ht hu ho
    have sIA : IA μd t.toNat x67_0.toNat ks vs la := by rw [hx_s]; exact IA_S hLx (by (first | ((try clear hne9); (try clear hj35_0); (try clear hj67_0); (try clear hj93_0); (try clear ho9); (try clear htu); show_term (have zq75 : True := trivial; omega)) | show_term (have zq75 : True := trivial; omega))) hes
    have pIA : IA μd u1.toNat x93_0.toNat kp vp lb := by rw [hx_p_]; exact IA_P hLx (by (first | ((try clear hne9); (try clear hj35_0); (try clear hj67_0); (try clear hj93_0); (try clear ho9); (try clear htu); show_term (have zq76 : True := trivial; omega)) | show_term (have zq76 : True := trivial; omega))) hep
    refine lv_iload hx hb dX10_walks_171 (lv_at hl 1 rfl) ?_
    refine fz_if_eq (tgt := 194) (by decide) hx hb dX10_walks_173 (by decide) (fun c173_ => ?_) (fun h9 => absurd h9 (by decide))
    refine lv_iload hx hb dX10_walks_194 (lv_at hl 6 rfl) ?_
    refine lv_iconst (v := iZ 1) hx hb dX10_walks_196 rfl ?_
    refine fz_icmp_ne (tgt := 211) (by decide) (by decide) hx hb dX10_walks_197 (by decide) (fun h9 => absurd h9 (by decide)) (fun c197_ => ?_)
    refine lv_aload_n hx hb dX10_walks_200 rfl (lv_at hl 13 rfl) ?_
    refine lv_iload_n hx hb dX10_walks_201 rfl (lv_at hl 12 rfl) ?_
    refine lv_iload hx hb dX10_walks_202 (lv_at hl 5 rfl) ?_
    refine lv_iload hx hb dX10_walks_204 (lv_at hl 4 rfl) ?_
    refine lv_iload_n hx hb dX10_walks_206 rfl (lv_at hl 11 rfl) ?_
    refine va_calli (va_runV (As := [.int (iZ (n)), .int (iZ (x67_0)), .int (iZ (x93_0)), .int (iZ (o1))]) (rest := []) ⟨hx, hb, hml, hown, hts⟩ (m_meets l dC dI cI cZ cII cIII h0 (d9) H.size μd (n) (x67_0) (x93_0) (o1) (t) (u1) (ks) (vs) (la) (kp) (vp) (lb) (by exact hLR) (by (first | ((try clear hne9); (try clear hj35_0); (try clear hj67_0); (try clear hj93_0); (try clear ho9); (try clear htu); show_term (have zq77 : True := trivial; omega)) | show_term (have zq77 : True := trivial; omega))) (by exact ⟨hLx.1, hLx.2.1⟩) (by first | assumption | ((try clear hne9); (try clear hj35_0); (try clear hj67_0); (try clear hj93_0); (try clear ho9); (try clear htu); show_term (have zq78 : True := trivial; omega)) | show_term (have zq78 : True := trivial; omega) | exact ⟨by (first | ((try clear hne9); (try clear hj35_0); (try clear hj67_0); (try clear hj93_0); (try clear ho9); (try clear htu); show_term (have zq79 : True := trivial; omega)) | show_term (have zq79 : True := trivial; omega)), by (first | ((try clear hne9); (try clear hj35_0); (try clear hj67_0); (try clear hj93_0); (try clear ho9); (try clear htu); show_term (have zq80 : True := trivial; omega)) | show_term (have zq80 : True := trivial; omega))⟩) (by first | assumption | ((try clear hne9); (try clear hj35_0); (try clear hj67_0); (try clear hj93_0); (try clear ho9); (try clear htu); show_term (have zq81 : True := trivial; omega)) | show_term (have zq81 : True := trivial; omega) | exact ⟨by (first | ((try clear hne9); (try clear hj35_0); (try clear hj67_0); (try clear hj93_0); (try clear ho9); (try clear htu); show_term (have zq82 : True := trivial; omega)) | show_term (have zq82 : True := trivial; omega)), by (first | ((try clear hne9); (try clear hj35_0); (try clear hj67_0); (try clear hj93_0); (try clear ho9); (try clear htu); show_term (have zq83 : True := trivial; omega)) | show_term (have zq83 : True := trivial; omega))⟩) (by (first | ((try clear hne9); (try clear hj35_0); (try clear hj67_0); (try clear hj93_0); (try clear ho9); (try clear htu); show_term (have zq84 : True := trivial; omega)) | show_term (have zq84 : True := trivial; omega))) (by (first | ((try clear hne9); (try clear hj35_0); (try clear hj67_0); (try clear hj93_0); (try clear ho9); (try clear htu); show_term (have zq85 : True := trivial; omega)) | show_term (have zq85 : True := trivial; omega))) (by exact sIA) (by exact pIA) (by exact sF) (by exact pF) (by (first | ((try clear hne9); (try clear hj35_0); (try clear hj67_0); (try clear hj93_0); (try clear ho9); (try clear htu); show_term (have zq86 : True := trivial; omega)) | show_term (have zq86 : True := trivial; omega))) (by (first | ((try clear hne9); (try clear hj35_0); (try clear hj67_0); (try clear hj93_0); (try clear ho9); (try clear htu); show_term (have zq87 : True := trivial; omega)) | show_term (have zq87 : True := trivial; omega))) (by intro h; have h9 := wSt_cap hC hcap h; rw [mtR_N] at h9; show_term (have zq88 : True := trivial; omega)) (by intro h; exact way1_c hy9 hmn) (by (first | ((try clear hne9); (try clear hj35_0); (try clear hj67_0); (try clear hj93_0); (try clear ho9); (try clear htu); show_term (have zq89 : True := trivial; omega)) | show_term (have zq89 : True := trivial; omega)))) (cwV 4 hts (gV_G k1552 k1554 ks_yX10_meets k13 k1555) rfl rfl rfl (by decide +kernel) ⟨by show 5 * d9 + 32 + 1 + 1 ≤ _; show_term (have zq90 : True := trivial; omega), by show 8 + (10 + 11) + (200 * d9 + 900 + 40) ≤ _; show_term (have zq91 : True := trivial; omega)⟩) ⟨fun a U g mk q => by obtain ⟨q0, q1, qP, qK⟩ := q; exact ⟨q0, q1, qP, va_K.moved (u := U) (U := U.calling g mk a) (Vm.Alike.refl U.vm) qK⟩, va_recv hK hP (ci := 10) (q0 := 0) rfl ((fw_get (by decide)).trans (by rw [mE_obj]; rfl)), fun U hU hW => ⟨rfl, by rw [hU], by rw [hU]; exact hP, va_K.moved hW.alike hK⟩⟩ rfl rfl hl.1 rfl (lv_room (Nat.le_of_ble_eq_true rfl)) dX10_walks_207 ⟨hRc, hRs⟩) hS (fun q _ h => fA_le hS.1 q h) (fA_le hS.1) (fun r9 u9 t9 H1 locs ht9 hvm9 hw9 hB9 hz9 hk9 hS => ?_)
    obtain ⟨μm, rm⟩ := u9
    obtain ⟨hP, -⟩ := hB9
    rw [ht9] at hP
    generalize H1 = H at hP hS ⊢
    obtain ⟨e9, hw9⟩ := hw9
    have e9 : r9 = iZ rm := e9
    subst e9
    simp only at hP hw9
    have hμm := hw9; clear hw9
    have hN := wSt_mt hC (by (first | ((try clear hne9); (try clear hj35_0); (try clear hj67_0); (try clear hj93_0); (try clear ho9); (try clear htu); show_term (have zq92 : True := trivial; omega)) | show_term (have zq92 : True := trivial; omega))) hμm.2 y
    refine lv_pop hx hb dX10_walks_210 rfl ?_
    refine lv_iload hx hb dX10_walks_211 (lv_at hl 6 rfl) ?_
    refine lv_iconst (v := iZ 2) hx hb dX10_walks_213 rfl ?_
    refine fz_icmp_ne (tgt := 237) (by decide) (by decide) hx hb dX10_walks_214 (by decide) (fun c214_ => ?_) (fun h9 => absurd h9 (by decide))
    refine lv_iload hx hb dX10_walks_237 (lv_at hl 6 rfl) ?_
    refine lv_iconst (v := iZ 3) hx hb dX10_walks_239 rfl ?_
    refine fz_icmp_ne (tgt := 262) (by decide) (by decide) hx hb dX10_walks_240 (by decide) (fun c240_ => ?_) (fun h9 => absurd h9 (by decide))
    refine lv_iload hx hb dX10_walks_262 (lv_at hl 6 rfl) ?_
    refine lv_iconst (v := iZ 4) hx hb dX10_walks_264 rfl ?_
    refine fz_icmp_ne (tgt := 277) (by decide) (by decide) hx hb dX10_walks_265 (by decide) (fun c265_ => ?_) (fun h9 => absurd h9 (by decide))
    refine lv_iload hx hb dX10_walks_277 (lv_at hl 6 rfl) ?_
    refine lv_iconst (v := iZ 5) hx hb dX10_walks_279 rfl ?_
    refine fz_icmp_ne (tgt := 292) (by decide) (by decide) hx hb dX10_walks_280 (by decide) (fun c280_ => ?_) (fun h9 => absurd h9 (by decide))
    refine lv_iload hx hb dX10_walks_292 (lv_at hl 7 rfl) ?_
    refine lv_iload hx hb dX10_walks_294 (lv_at hl 6 rfl) ?_
    refine lv_iconst (v := iZ 3) hx hb dX10_walks_296 rfl ?_
    refine fz_icmp_gt (tgt := 320) (by decide) (by decide) hx hb dX10_walks_297 (by decide) (fun h9 => absurd h9 (by decide)) (fun c297_ => ?_)
    refine lv_iload hx hb dX10_walks_300 (lv_at hl 6 rfl) ?_
    refine lv_iconst (v := iZ 2) hx hb dX10_walks_302 rfl ?_
    refine fz_icmp_ne (tgt := 324) (by decide) (by decide) hx hb dX10_walks_303 (by decide) (fun c303_ => ?_) (fun h9 => absurd h9 (by decide))
    refine lv_iconst (v := iZ 0) hx hb dX10_walks_324 rfl ?_
    refine lv_iand hx hb dX10_walks_325 ?_
    refine lv_topi (fun x9 ex9 => ?_)
    obtain ⟨z3, rfl, hz3⟩ := iZ_ex x9
    have ez3 := ex9; clear ex9
    refine lv_istore (lv' := [(7, .int (iZ (z3))), (5, .int (iZ (0))), (13, .int (iZ (0))), (12, .int (iZ (u1))), (11, .int (iZ (t))), (10, .int (iZ (x93_0))), (9, .int (iZ (x67_0))), (8, .int (iZ (1))), (6, .int (iZ (y))), (4, .int (iZ (j))), (3, .int (iZ (i))), (2, .int (iZ (o1))), (1, .int (iZ (n))), (0, .ref h0)]) hx hb dX10_walks_326 hl (by decide) rfl (fun ls hl => ?_)
    refine lv_iload_n hx hb dX10_walks_328 rfl (lv_at hl 10 rfl) ?_
    refine lv_iload hx hb dX10_walks_329 (lv_at hl 7 rfl) ?_
    refine lv_iconst (v := iZ 3) hx hb dX10_walks_331 rfl ?_
    refine fz_icmp_ne (tgt := 346) (by decide) (by decide) hx hb dX10_walks_332 (by decide) (fun c332_ => ?_) (fun h9 => absurd h9 (by decide))
    refine lv_iload hx hb dX10_walks_346 (lv_at hl 7 rfl) ?_
    refine lv_iconst (v := iZ 5) hx hb dX10_walks_348 rfl ?_
    refine fz_icmp_ne (tgt := 356) (by decide) (by decide) hx hb dX10_walks_349 (by decide) (fun c349_ => ?_) (fun h9 => absurd h9 (by decide))
    refine lv_iconst (v := iZ 1) hx hb dX10_walks_356 rfl ?_
    refine lv_iadd hx hb dX10_walks_357 ?_
    refine lv_topi (fun x9 ex9 => ?_)
    obtain rfl : x9 = iZ (i + 1) := ex9.trans (iZ_add _ _)
    refine lv_istore_n (lv' := [(3, .int (iZ (i + 1))), (7, .int (iZ (z3))), (5, .int (iZ (0))), (13, .int (iZ (0))), (12, .int (iZ (u1))), (11, .int (iZ (t))), (10, .int (iZ (x93_0))), (9, .int (iZ (x67_0))), (8, .int (iZ (1))), (6, .int (iZ (y))), (4, .int (iZ (j))), (2, .int (iZ (o1))), (1, .int (iZ (n))), (0, .ref h0)]) hx hb dX10_walks_358 rfl hl (by decide) rfl (fun ls hl => ?_)
    refine lv_iload hx hb dX10_walks_359 (lv_at hl 10 rfl) ?_
    refine lv_iload hx hb dX10_walks_361 (lv_at hl 8 rfl) ?_
    refine lv_iconst (v := iZ 2) hx hb dX10_walks_363 rfl ?_
    refine fz_icmp_ne (tgt := 378) (by decide) (by decide) hx hb dX10_walks_364 (by decide) (fun c364_ => ?_) (fun h9 => absurd h9 (by decide))
    refine lv_iload hx hb dX10_walks_378 (lv_at hl 8 rfl) ?_
    refine lv_iconst (v := iZ 4) hx hb dX10_walks_380 rfl ?_
    refine fz_icmp_ne (tgt := 388) (by decide) (by decide) hx hb dX10_walks_381 (by decide) (fun c381_ => ?_) (fun h9 => absurd h9 (by decide))
    refine lv_iconst (v := iZ 1) hx hb dX10_walks_388 rfl ?_
    refine lv_iadd hx hb dX10_walks_389 ?_
    refine lv_topi (fun x9 ex9 => ?_)
    obtain rfl : x9 = iZ (j + 1) := ex9.trans (iZ_add _ _)
    refine lv_istore (lv' := [(4, .int (iZ (j + 1))), (3, .int (iZ (i + 1))), (7, .int (iZ (z3))), (5, .int (iZ (0))), (13, .int (iZ (0))), (12, .int (iZ (u1))), (11, .int (iZ (t))), (10, .int (iZ (x93_0))), (9, .int (iZ (x67_0))), (8, .int (iZ (1))), (6, .int (iZ (y))), (2, .int (iZ (o1))), (1, .int (iZ (n))), (0, .ref h0)]) hx hb dX10_walks_390 hl (by decide) rfl (fun ls hl => ?_)
    refine lv_goto (tgt := 14) hx hb dX10_walks_392 (by decide) ?_
    exact ih (i + 1) (j + 1) (0) (y) (z3) μm H locs ls (by
                rw [show (i + 1).toNat = i.toNat + 1 by (first | ((try clear hne9); (try clear hj35_0); (try clear hj67_0); (try clear hj93_0); (try clear ho9); (try clear htu); show_term (have zq93 : True := trivial; omega)) | show_term (have zq93 : True := trivial; omega)), show (j + 1).toNat = j.toNat + 1 by (first | ((try clear hne9); (try clear hj35_0); (try clear hj67_0); (try clear hj93_0); (try clear ho9); (try clear htu); show_term (have zq94 : True := trivial; omega)) | show_term (have zq94 : True := trivial; omega)), sS, pS]
                rw [show (0 : Int).toNat = 0 from rfl, wk_01]
                exact hN) (by (first | ((try clear hne9); (try clear hj35_0); (try clear hj67_0); (try clear hj93_0); (try clear ho9); (try clear htu); show_term (have zq95 : True := trivial; omega)) | show_term (have zq95 : True := trivial; omega))) (by (first | ((try clear hne9); (try clear hj35_0); (try clear hj67_0); (try clear hj93_0); (try clear ho9); (try clear htu); show_term (have zq96 : True := trivial; omega)) | show_term (have zq96 : True := trivial; omega))) (by first | exact Or.inl rfl | exact Or.inr (Or.inl rfl) | exact Or.inr (Or.inr rfl)) (by
                rw [show (i + 1).toNat = i.toNat + 1 by (first | ((try clear hne9); (try clear hj35_0); (try clear hj67_0); (try clear hj93_0); (try clear ho9); (try clear htu); show_term (have zq97 : True := trivial; omega)) | show_term (have zq97 : True := trivial; omega)), show (j + 1).toNat = j.toNat + 1 by (first | ((try clear hne9); (try clear hj35_0); (try clear hj67_0); (try clear hj93_0); (try clear ho9); (try clear htu); show_term (have zq98 : True := trivial; omega)) | show_term (have zq98 : True := trivial; omega)), sS, pS]
                obtain ⟨a1_, a2_, a3_, a4_, a5_⟩ := al_is (Or.inl rfl) hmn
                exact alI_and0 hz3 ez3 hal (a1_ hy9)) (by (first | ((try clear hne9); (try clear hj35_0); (try clear hj67_0); (try clear hj93_0); (try clear ho9); (try clear htu); show_term (have zq99 : True := trivial; omega)) | show_term (have zq99 : True := trivial; omega))) hP hS (lv_sub hl [2, 10, 3, 0, 1, 11, 12, 13] rfl)
set_option maxHeartbeats 40000000 in
set_option maxRecDepth 100000 in
theorem LX10_walks_w2 {p : Program} {l : Launch} {e : Env} {R : Room} {s : State} {m : MethodId} {args : Array Value} {below : List Frame} {meth : Method} {c : Code} {cells slots : Nat} {Q : State → Prop} {dC : Nat → ClassId} {dI : Nat → Nat → Nat} {h0 : Nat} {cI cZ cII cIII : ClassId} {d9 : Nat} (hx : p.tables.exec = Jvm.exec) (hb : c.code = cX10_walks) (hml : c.maxLocals = 14) (hown : s.vm.findClass RX10 = some m.cls) (hts : ∀ w ∈ wsG, w.before args s = true) (hK : va_K (dC, dI) vwCl (mT cI cZ cII cIII) s) (hRf : 5 * d9 + 32 + 1 + 1 + 1 + 1 ≤ R.frames) (hRl : 200 * d9 + 900 + 40 + 40 + 40 + 40 ≤ R.locals) (hRc : cells ≤ R.cells) (hRs : slots ≤ R.slots) (μ0 : va_M) (n : Int) (o1 : Int) (t : Int) (u1 : Int) (wS : Rw) (wP : Rw) (ps : Int) (pq : Int) (hLR : ∀ (sz : Nat) (μ : va_M) (n : Int) (t : Int) (a1 : Int) (a2 : Int) (u1 : Int) (b1 : Int) (b2 : Int) (o1 : Int) (wS : Rw) (wP : Rw), (0 ≤ n ∧ n + rH wP ≤ 13) → (0 ≤ t ∧ t < 70) → (0 ≤ u1 ∧ u1 < 70) → (0 ≤ a1 ∧ a2 = a1 + rN wS ∧ a2 ≤ 900) → (0 ≤ b1 ∧ b2 = b1 + rN wP ∧ b2 ≤ 900) → (RA μ t.toNat wS a1.toNat) → (RA μ u1.toNat wP b1.toNat) → (rWF wS) → (rWF wP) → (rL wS ≤ 259 ∧ rL wP ≤ 60 ∧ rH wS ≤ 20) → (-1 ≤ o1 ∧ o1 < 70 ∧ o1 ≠ t ∧ o1 ≠ u1) → (capI2 o1 (μ 719 o1.toNat) (rN (lrow wS wP))) → (rH wP < d9) → Met l yX10_laysRow (Cond.code yX10_laysRow cX10_laysRow 13 (some .int) :: wsG) ({ frames := 5 * d9 + 32, cells := 0, slots := 0, locals := 200 * d9 + 900 } : Room) (va_Pc [.ref h0, .int (iZ (n)), .int (iZ (t)), .int (iZ (a1)), .int (iZ (a2)), .int (iZ (u1)), .int (iZ (b1)), .int (iZ (b2)), .int (iZ (o1))] (fun U => U.heap.size = sz ∧ va_P (dC, dI) vwCl (fw (mE cI cZ cII cIII h0) h0 6325 μ) U.heap ∧ va_K (dC, dI) vwCl (mT cI cZ cII cIII) U)) (va_Qi (fun (r9 : Int32) (u : va_M × Int) => r9 = iZ u.2 ∧ (fun (u : va_M) (r : Int) => r = (lay wS wP).1 ∧ u 0 33 = (if (lay wS wP).2 = true then 1 else 0) ∧ layO μ u n.toNat o1 (lrow wS wP)) u.1 u.2) (fun u t => va_P (dC, dI) vwCl (fw (mE cI cZ cII cIII h0) h0 6325 u.1) t.heap ∧ va_K (dC, dI) vwCl (mT cI cZ cII cIII) t) (fA h0 6325 sz)) 0 0 (fA h0 6325 sz)) (hn : 0 ≤ n ∧ n + rH wP ≤ 13) (hL : lvS μ0 n.toNat t u1 wS wP ps pq) (ht : 0 ≤ t ∧ t < 70) (hu : 0 ≤ u1 ∧ u1 < 70) (htu : t ≠ -1 ∧ u1 ≠ -1) (hps : 0 ≤ ps ∧ ps + rN wS ≤ 900) (hpq : 0 ≤ pq ∧ pq + rN wP ≤ 900) (hwS : rWF wS) (hwP : rWF wP) (h260 : rL wS ≤ 259 ∧ rL wP ≤ 60 ∧ rH wS ≤ 20) (hd : rH wP ≤ d9) (hle : leB μ0 n.toNat wS wP 0 0) (ho : -1 ≤ o1 ∧ o1 < 70 ∧ o1 ≠ t ∧ o1 ≠ u1) (hcap : capI2 o1 (μ0 719 o1.toNat) (rN (lrow wS wP))) (n9 : Nat) (i : Int) (j : Int) (o : Int) (y : Int) (al : Int) (μ : va_M) (x67_0 : Int) (x93_0 : Int) (hwc : wSt μ0 μ n.toNat o1 (μ0 719 o1.toNat) (lrow wS wP) o y (wk o.toNat (rdrop i.toNat wS) (rdrop j.toNat wP)).1 (wk o.toNat (rdrop i.toNat wS) (rdrop j.toNat wP)).2) (hLc : lvS μ n.toNat t u1 wS wP ps pq) (hmn : wmin lay (rdrop i.toNat wS) (rdrop j.toNat wP) < 1000000) (hne9 : hsd (rdrop i.toNat wS) = true ∨ hsd (rdrop j.toNat wP) = true) (hj35_0 : i < (rI wS : Int) ∨ j < (rI wP : Int)) (hj67_0 : i < (rI wS : Int) → x67_0 = ps + (rO wS i.toNat : Int)) (hj93_0 : j < (rI wP : Int) → x93_0 = pq + (rO wP j.toNat : Int)) (hi : 0 ≤ i ∧ i ≤ rI wS) (hj : 0 ≤ j ∧ j ≤ rI wP) (ho9 : o = 0 ∨ o = 4 ∨ o = 5) (hal : alI al (rdrop i.toNat wS) (rdrop j.toNat wP) wS wP) (hwy : (wayOf (rdrop i.toNat wS) (rdrop j.toNat wP) : Int) = 2) (hm9 : (rI wS - i + (rI wP - j)).toNat < n9 + 1) (ih : ∀ (i : Int) (j : Int) (o : Int) (y : Int) (al : Int) (μ : va_M) (H : Heap) (locs : List Loc) (ls : Array Slot), (wSt μ0 μ n.toNat o1 (μ0 719 o1.toNat) (lrow wS wP) o y (wk o.toNat (rdrop i.toNat wS) (rdrop j.toNat wP)).1 (wk o.toNat (rdrop i.toNat wS) (rdrop j.toNat wP)).2) → (0 ≤ i ∧ i ≤ rI wS) → (0 ≤ j ∧ j ≤ rI wP) → (o = 0 ∨ o = 4 ∨ o = 5) → (alI al (rdrop i.toNat wS) (rdrop j.toNat wP) wS wP) → (rI wS - i + (rI wP - j)).toNat < n9 → va_P (dC, dI) vwCl (fw (mE cI cZ cII cIII h0) h0 6325 μ) H → va_S (fA h0 6325 s.heap.size) s.heap H locs → lv_has ls 14 [(7, .int (iZ (al))), (6, .int (iZ (y))), (5, .int (iZ (o))), (4, .int (iZ (j))), (3, .int (iZ (i))), (2, .int (iZ (o1))), (1, .int (iZ (n))), (0, .ref h0)] → W p l e R s m args below meth c H locs cells slots Q (F0 m 14 ls [])) :
    ∀ (H : Heap) (locs : List Loc) (ls : Array Slot), va_P (dC, dI) vwCl (fw (mE cI cZ cII cIII h0) h0 6325 μ) H → va_S (fA h0 6325 s.heap.size) s.heap H locs → lv_has ls 14 [(12, .int (iZ (u1))), (11, .int (iZ (t))), (10, .int (iZ (x93_0))), (9, .int (iZ (x67_0))), (8, .int (iZ (2))), (7, .int (iZ (al))), (6, .int (iZ (y))), (5, .int (iZ (o))), (4, .int (iZ (j))), (3, .int (iZ (i))), (2, .int (iZ (o1))), (1, .int (iZ (n))), (0, .ref h0)] → W p l e R s m args below meth c H locs cells slots Q (F0 m 111 ls []) := by
  intro H locs ls hP hS hl
  have hIS := rI_L wS hwS
  have hIP := rI_L wP hwP
  have hLx0 := hLc
  have hwy : wayOf (rdrop i.toNat wS) (rdrop j.toNat wP) = 2 := by (first | ((try clear hne9); (try clear hj35_0); (try clear hj67_0); (try clear hj93_0); (try clear ho9); (try clear htu); show_term (have zq100 : True := trivial; omega)) | show_term (have zq100 : True := trivial; omega))
  have hy9 : wayOf (rdrop i.toNat wS) (rdrop j.toNat wP) = 2 := by (first | ((try clear hne9); (try clear hj35_0); (try clear hj67_0); (try clear hj93_0); (try clear ho9); (try clear htu); show_term (have zq101 : True := trivial; omega)) | show_term (have zq101 : True := trivial; omega))
  have hh9 := way_hsd.1 (Or.inr (Or.inl hy9))
  have hi9 : i < (rI wS : Int) := by
    have h9 := hsd_I.mp hh9.1
    rw [rdrop_I] at h9
    show_term (have zq102 : True := trivial; omega)
  have hj9 : j < (rI wP : Int) := by
    have h9 := hsd_I.mp hh9.2
    rw [rdrop_I] at h9
    show_term (have zq103 : True := trivial; omega)
  have s0 := rdrop_I i.toNat wS
  have s1 := rdrop_N i.toNat wS
  have s9 := rdrop_H i.toNat wS
  have s3 := rdrop_WF i.toNat wS hwS
  obtain ⟨zs, ks, vs, la, ra, hes⟩ := rI_pos (w := rdrop i.toNat wS) (by (first | ((try clear hne9); (try clear hj35_0); (try clear hj67_0); (try clear hj93_0); (try clear ho9); (try clear htu); show_term (have zq104 : True := trivial; omega)) | show_term (have zq104 : True := trivial; omega)))
  rw [hes] at s0 s1 s3 s9 hy9 hmn hwc hal
  rw [rN_in] at s1
  rw [rI_in] at s0
  rw [rH_in] at s9
  have sF : iWF ks vs la := ⟨s3.1, s3.2.1, s3.2.2.1, s3.2.2.2.1, s3.2.2.2.2.1, s3.2.2.2.2.2.1, s3.2.2.2.2.2.2.1⟩
  have sFk : ks ≤ 4 := s3.1
  clear s3
  have sS := rdrop_S hes
  have sSI := rI_N2 la
  have sSL : rL la ≤ rL wS := Nat.le_trans (by rw [hes]; exact rL_l) (rdrop_L i.toNat wS)
  have hx_s : x67_0 = ps + (rO wS i.toNat : Int) := hj67_0 hi9
  rw [wk_2 hy9] at hwc
  dsimp only at hwc
  obtain ⟨hk3, hnx⟩ := way2_c hy9 hmn
  have hnI := nxt_I _ _ hnx
  rw [rdrop_I] at hnI
  have hnN := nx_N sF.2.2.2.2.2.2 (rdrop_WF _ _ hwP) hnx
  clear hne9 hj35_0 hj67_0 hj93_0
  rcases (show o = 0 ∨ o = 4 ∨ o = 5 from by exact ho9) with rfl | rfl | rfl
  · clear ho9
    refine lv_iload hx hb dX10_walks_111 (lv_at hl 4 rfl) ?_
    refine lv_iconst (v := iZ 5) hx hb dX10_walks_113 rfl ?_
    refine fz_icmp_eq (tgt := 137) (by decide) (by decide) hx hb dX10_walks_114 (by decide) (fun h9 => absurd h9 (by decide)) (fun c114_ => ?_)
    refine lv_iload hx hb dX10_walks_117 (lv_at hl 4 rfl) ?_
    refine lv_iconst (v := iZ 4) hx hb dX10_walks_119 rfl ?_
    refine fz_icmp_ne (tgt := 141) (by decide) (by decide) hx hb dX10_walks_120 (by decide) (fun c120_ => ?_) (fun h9 => absurd h9 (by decide))
    refine lv_iconst (v := iZ 0) hx hb dX10_walks_141 rfl ?_
    refine lv_istore (lv' := [(13, .int (iZ (0))), (12, .int (iZ (u1))), (11, .int (iZ (t))), (10, .int (iZ (x93_0))), (9, .int (iZ (x67_0))), (8, .int (iZ (2))), (7, .int (iZ (al))), (6, .int (iZ (y))), (5, .int (iZ (0))), (4, .int (iZ (j))), (3, .int (iZ (i))), (2, .int (iZ (o1))), (1, .int (iZ (n))), (0, .ref h0)]) hx hb dX10_walks_142 hl (by decide) rfl (fun ls hl => ?_)
    refine lv_iload hx hb dX10_walks_144 (lv_at hl 8 rfl) ?_
    refine fz_if_le (tgt := 171) (by decide) hx hb dX10_walks_146 (by decide) (fun c146_ => ?_) (fun h9 => absurd h9 (by decide))
    have hC := hwc
    have hLx := lvS_wSt hL hC (by (first | ((try clear hne9); (try clear hj35_0); (try clear hj67_0); (try clear hj93_0); (try clear ho9); (try clear htu); show_term (have zq105 : True := trivial; omega)) | show_term (have zq105 : True := trivial; omega))) ht hu ho
    have sIA : IA μ t.toNat x67_0.toNat ks vs la := by rw [hx_s]; exact IA_S hLx (by (first | ((try clear hne9); (try clear hj35_0); (try clear hj67_0); (try clear hj93_0); (try clear ho9); (try clear htu); show_term (have zq106 : True := trivial; omega)) | show_term (have zq106 : True := trivial; omega))) hes
    refine lv_iload hx hb dX10_walks_171 (lv_at hl 0 rfl) ?_
    refine fz_if_eq (tgt := 194) (by decide) hx hb dX10_walks_173 (by decide) (fun c173_ => ?_) (fun h9 => absurd h9 (by decide))
    refine lv_iload hx hb dX10_walks_194 (lv_at hl 5 rfl) ?_
    refine lv_iconst (v := iZ 1) hx hb dX10_walks_196 rfl ?_
    refine fz_icmp_ne (tgt := 211) (by decide) (by decide) hx hb dX10_walks_197 (by decide) (fun c197_ => ?_) (fun h9 => absurd h9 (by decide))
    refine lv_iload hx hb dX10_walks_211 (lv_at hl 5 rfl) ?_
    refine lv_iconst (v := iZ 2) hx hb dX10_walks_213 rfl ?_
    refine fz_icmp_ne (tgt := 237) (by decide) (by decide) hx hb dX10_walks_214 (by decide) (fun h9 => absurd h9 (by decide)) (fun c214_ => ?_)
    refine lv_aload_n hx hb dX10_walks_217 rfl (lv_at hl 13 rfl) ?_
    refine lv_iload hx hb dX10_walks_218 (lv_at hl 2 rfl) ?_
    refine lv_iload hx hb dX10_walks_220 (lv_at hl 4 rfl) ?_
    refine lv_iload hx hb dX10_walks_222 (lv_at hl 1 rfl) ?_
    refine lv_aload_n hx hb dX10_walks_224 rfl (lv_at hl 13 rfl) ?_
    refine fz_get (D := (dC, dI)) (ci := 10) (v := .ref (h0 + 737)) (C := RX10) (T := TX10) (N := 53) hx hb hts inG10 hown hK hP (k := 0) (by decide) (F := mF h0) mE_obj rfl 30 (by decide) (hts _ k1196) (fun _ h9 => h9) rfl dX10_walks_225 ?_
    refine lv_iload_n hx hb dX10_walks_228 rfl (lv_at hl 12 rfl) ?_
    refine fz_ald (k := 737) (n := 14) (k2 := (738 + (n).toNat)) hx hb hK hP 2 rfl (by decide) mE_rowP rfl ⟨by (first | ((try clear hne9); (try clear hj35_0); (try clear hj67_0); (try clear hj93_0); (try clear ho9); (try clear htu); show_term (have zq107 : True := trivial; omega)) | show_term (have zq107 : True := trivial; omega)), by (first | ((try clear hne9); (try clear hj35_0); (try clear hj67_0); (try clear hj93_0); (try clear ho9); (try clear htu); show_term (have zq108 : True := trivial; omega)) | show_term (have zq108 : True := trivial; omega))⟩ (by decide) (if_pos (by (first | ((try clear hne9); (try clear hj35_0); (try clear hj67_0); (try clear hj93_0); (try clear ho9); (try clear htu); show_term (have zq109 : True := trivial; omega)) | show_term (have zq109 : True := trivial; omega)))) dX10_walks_229 ?_
    refine lv_iload hx hb dX10_walks_230 (lv_at hl 9 rfl) ?_
    refine lv_iload_n hx hb dX10_walks_232 rfl (lv_at hl 11 rfl) ?_
    refine va_calli (va_runV (As := [.int (iZ (t)), .int (iZ (x67_0)), .int (iZ (u1)), .ref (h0 + (738 + (n).toNat)), .int (iZ (j)), .int (iZ (o1))]) (rest := []) ⟨hx, hb, hml, hown, hts⟩ (m_fusesRow l dC dI cI cZ cII cIII h0 H.size μ (t) (x67_0) (u1) ((738 + n.toNat)) (j) (o1) (ks) (vs) (la) (wP) (pq) (by first | assumption | ((try clear hne9); (try clear hj35_0); (try clear hj67_0); (try clear hj93_0); (try clear ho9); (try clear htu); show_term (have zq110 : True := trivial; omega)) | show_term (have zq110 : True := trivial; omega) | exact ⟨by (first | ((try clear hne9); (try clear hj35_0); (try clear hj67_0); (try clear hj93_0); (try clear ho9); (try clear htu); show_term (have zq111 : True := trivial; omega)) | show_term (have zq111 : True := trivial; omega)), by (first | ((try clear hne9); (try clear hj35_0); (try clear hj67_0); (try clear hj93_0); (try clear ho9); (try clear htu); show_term (have zq112 : True := trivial; omega)) | show_term (have zq112 : True := trivial; omega))⟩) (by first | assumption | ((try clear hne9); (try clear hj35_0); (try clear hj67_0); (try clear hj93_0); (try clear ho9); (try clear htu); show_term (have zq113 : True := trivial; omega)) | show_term (have zq113 : True := trivial; omega) | exact ⟨by (first | ((try clear hne9); (try clear hj35_0); (try clear hj67_0); (try clear hj93_0); (try clear ho9); (try clear htu); show_term (have zq114 : True := trivial; omega)) | show_term (have zq114 : True := trivial; omega)), by (first | ((try clear hne9); (try clear hj35_0); (try clear hj67_0); (try clear hj93_0); (try clear ho9); (try clear htu); show_term (have zq115 : True := trivial; omega)) | show_term (have zq115 : True := trivial; omega))⟩) (by (first | ((try clear hne9); (try clear hj35_0); (try clear hj67_0); (try clear hj93_0); (try clear ho9); (try clear htu); show_term (have zq116 : True := trivial; omega)) | show_term (have zq116 : True := trivial; omega))) (by exact sIA) (by exact sF) (by exact Or.inr ⟨by (first | ((try clear hne9); (try clear hj35_0); (try clear hj67_0); (try clear hj93_0); (try clear ho9); (try clear htu); show_term (have zq117 : True := trivial; omega)) | show_term (have zq117 : True := trivial; omega)), by (first | ((try clear hne9); (try clear hj35_0); (try clear hj67_0); (try clear hj93_0); (try clear ho9); (try clear htu); show_term (have zq118 : True := trivial; omega)) | show_term (have zq118 : True := trivial; omega))⟩) (by exact hLx.2.2.2.2.2.1) (by exact hLx.2.2.2.2.2.2.2) (by exact hpq) (by exact hwP) (by (first | ((try clear hne9); (try clear hj35_0); (try clear hj67_0); (try clear hj93_0); (try clear ho9); (try clear htu); show_term (have zq119 : True := trivial; omega)) | show_term (have zq119 : True := trivial; omega))) (by exact hj) (by (first | ((try clear hne9); (try clear hj35_0); (try clear hj67_0); (try clear hj93_0); (try clear ho9); (try clear htu); show_term (have zq120 : True := trivial; omega)) | show_term (have zq120 : True := trivial; omega))) (by (first | ((try clear hne9); (try clear hj35_0); (try clear hj67_0); (try clear hj93_0); (try clear ho9); (try clear htu); show_term (have zq121 : True := trivial; omega)) | show_term (have zq121 : True := trivial; omega))) (by exact hnx) (by intro h; have h9 := wSt_cap hC hcap h; rw [rN_in, hnN] at h9; show_term (have zq122 : True := trivial; omega))) (cwV 6 hts (gV_G k1468 k1470 ks_yX10_fusesRow k13 k1471) rfl rfl rfl (by decide +kernel) ⟨by show 24 + 1 ≤ _; show_term (have zq123 : True := trivial; omega), by show 8 + (11 + 11) + (740) ≤ _; show_term (have zq124 : True := trivial; omega)⟩) ⟨fun a U g mk q => by obtain ⟨q0, q1, qP, qK⟩ := q; exact ⟨q0, q1, qP, va_K.moved (u := U) (U := U.calling g mk a) (Vm.Alike.refl U.vm) qK⟩, va_recv hK hP (ci := 10) (q0 := 0) rfl ((fw_get (by decide)).trans (by rw [mE_obj]; rfl)), fun U hU hW => ⟨rfl, by rw [hU], by rw [hU]; exact hP, va_K.moved hW.alike hK⟩⟩ rfl rfl hl.1 rfl (lv_room (Nat.le_of_ble_eq_true rfl)) dX10_walks_233 ⟨hRc, hRs⟩) hS (fun q _ h => fA_le hS.1 q h) (fA_le hS.1) (fun r9 u9 t9 H1 locs ht9 hvm9 hw9 hB9 hz9 hk9 hS => ?_)
    obtain ⟨μr, rr9⟩ := u9
    obtain ⟨hP, -⟩ := hB9
    rw [ht9] at hP
    generalize H1 = H at hP hS ⊢
    obtain ⟨e9, hw9⟩ := hw9
    have e9 : r9 = iZ rr9 := e9
    subst e9
    simp only at hP hw9
    have hμr := hw9; clear hw9
    have hN := wSt_it0 hC (by (first | ((try clear hne9); (try clear hj35_0); (try clear hj67_0); (try clear hj93_0); (try clear ho9); (try clear htu); show_term (have zq125 : True := trivial; omega)) | show_term (have zq125 : True := trivial; omega))) (layO_fu hμr hnN) y
    have hLn := lvS_wSt hL hN (by (first | ((try clear hne9); (try clear hj35_0); (try clear hj67_0); (try clear hj93_0); (try clear ho9); (try clear htu); show_term (have zq126 : True := trivial; omega)) | show_term (have zq126 : True := trivial; omega))) ht hu ho
    have sIn : IA μr t.toNat x67_0.toNat ks vs la := by rw [hx_s]; exact IA_S hLn (by (first | ((try clear hne9); (try clear hj35_0); (try clear hj67_0); (try clear hj93_0); (try clear ho9); (try clear htu); show_term (have zq127 : True := trivial; omega)) | show_term (have zq127 : True := trivial; omega))) hes
    refine lv_pop hx hb dX10_walks_236 rfl ?_
    refine lv_iload hx hb dX10_walks_237 (lv_at hl 5 rfl) ?_
    refine lv_iconst (v := iZ 3) hx hb dX10_walks_239 rfl ?_
    refine fz_icmp_ne (tgt := 262) (by decide) (by decide) hx hb dX10_walks_240 (by decide) (fun c240_ => ?_) (fun h9 => absurd h9 (by decide))
    refine lv_iload hx hb dX10_walks_262 (lv_at hl 5 rfl) ?_
    refine lv_iconst (v := iZ 4) hx hb dX10_walks_264 rfl ?_
    refine fz_icmp_ne (tgt := 277) (by decide) (by decide) hx hb dX10_walks_265 (by decide) (fun c265_ => ?_) (fun h9 => absurd h9 (by decide))
    refine lv_iload hx hb dX10_walks_277 (lv_at hl 5 rfl) ?_
    refine lv_iconst (v := iZ 5) hx hb dX10_walks_279 rfl ?_
    refine fz_icmp_ne (tgt := 292) (by decide) (by decide) hx hb dX10_walks_280 (by decide) (fun c280_ => ?_) (fun h9 => absurd h9 (by decide))
    refine lv_iload hx hb dX10_walks_292 (lv_at hl 6 rfl) ?_
    refine lv_iload hx hb dX10_walks_294 (lv_at hl 5 rfl) ?_
    refine lv_iconst (v := iZ 3) hx hb dX10_walks_296 rfl ?_
    refine fz_icmp_gt (tgt := 320) (by decide) (by decide) hx hb dX10_walks_297 (by decide) (fun h9 => absurd h9 (by decide)) (fun c297_ => ?_)
    refine lv_iload hx hb dX10_walks_300 (lv_at hl 5 rfl) ?_
    refine lv_iconst (v := iZ 2) hx hb dX10_walks_302 rfl ?_
    refine fz_icmp_ne (tgt := 324) (by decide) (by decide) hx hb dX10_walks_303 (by decide) (fun h9 => absurd h9 (by decide)) (fun c303_ => ?_)
    refine lv_aload_n hx hb dX10_walks_306 rfl (lv_at hl 13 rfl) ?_
    refine fz_get (D := (dC, dI)) (ci := 10) (v := .ref (h0 + 506)) (C := RX10) (T := TX10) (N := 53) hx hb hts inG10 hown hK hP (k := 0) (by decide) (F := mF h0) mE_obj rfl 18 (by decide) (hts _ k1184) (fun _ h9 => h9) rfl dX10_walks_307 ?_
    refine lv_iload hx hb dX10_walks_310 (lv_at hl 2 rfl) ?_
    refine fz_ald (k := 506) (n := 70) (k2 := (507 + (t).toNat)) hx hb hK hP 2 rfl (by decide) mE_sort rfl ⟨by (first | ((try clear hne9); (try clear hj35_0); (try clear hj67_0); (try clear hj93_0); (try clear ho9); (try clear htu); show_term (have zq128 : True := trivial; omega)) | show_term (have zq128 : True := trivial; omega)), by (first | ((try clear hne9); (try clear hj35_0); (try clear hj67_0); (try clear hj93_0); (try clear ho9); (try clear htu); show_term (have zq129 : True := trivial; omega)) | show_term (have zq129 : True := trivial; omega))⟩ (by decide) (if_pos (by (first | ((try clear hne9); (try clear hj35_0); (try clear hj67_0); (try clear hj93_0); (try clear ho9); (try clear htu); show_term (have zq130 : True := trivial; omega)) | show_term (have zq130 : True := trivial; omega)))) dX10_walks_312 ?_
    refine lv_iload hx hb dX10_walks_313 (lv_at hl 4 rfl) ?_
    refine fz_ld (k := (507 + (t).toNat)) (n := 900) hx hb hK hP 0 (by (first | ((try clear hne9); (try clear hj35_0); (try clear hj67_0); (try clear hj93_0); (try clear ho9); (try clear htu); show_term (have zq131 : True := trivial; omega)) | show_term (have zq131 : True := trivial; omega))) (mE_sortR (by (first | ((try clear hne9); (try clear hj35_0); (try clear hj67_0); (try clear hj93_0); (try clear ho9); (try clear htu); show_term (have zq132 : True := trivial; omega)) | show_term (have zq132 : True := trivial; omega)))) rfl ⟨by (first | ((try clear hne9); (try clear hj35_0); (try clear hj67_0); (try clear hj93_0); (try clear ho9); (try clear htu); show_term (have zq133 : True := trivial; omega)) | show_term (have zq133 : True := trivial; omega)), by (first | ((try clear hne9); (try clear hj35_0); (try clear hj67_0); (try clear hj93_0); (try clear ho9); (try clear htu); show_term (have zq134 : True := trivial; omega)) | show_term (have zq134 : True := trivial; omega))⟩ (by decide) dX10_walks_315 ?_
    rw [show μr (507 + (t).toNat) (x67_0).toNat = (ks : Int) from (by exact sIn.1)]
    refine lv_iconst (v := iZ 3) hx hb dX10_walks_316 rfl ?_
    refine fz_icmp_ne (tgt := 324) (by constructor <;> (first | ((try clear hne9); (try clear hj35_0); (try clear hj67_0); (try clear hj93_0); (try clear ho9); (try clear htu); show_term (have zq135 : True := trivial; omega)) | show_term (have zq135 : True := trivial; omega))) (by decide) hx hb dX10_walks_317 (by decide) (fun c317_ => ?_) (fun c317_ => ?_)
    · refine lv_iconst (v := iZ 0) hx hb dX10_walks_324 rfl ?_
      refine lv_iand hx hb dX10_walks_325 ?_
      refine lv_topi (fun x9 ex9 => ?_)
      obtain ⟨z4, rfl, hz4⟩ := iZ_ex x9
      have ez4 := ex9; clear ex9
      refine lv_istore (lv' := [(7, .int (iZ (z4))), (13, .int (iZ (0))), (12, .int (iZ (u1))), (11, .int (iZ (t))), (10, .int (iZ (x93_0))), (9, .int (iZ (x67_0))), (8, .int (iZ (2))), (6, .int (iZ (y))), (5, .int (iZ (0))), (4, .int (iZ (j))), (3, .int (iZ (i))), (2, .int (iZ (o1))), (1, .int (iZ (n))), (0, .ref h0)]) hx hb dX10_walks_326 hl (by decide) rfl (fun ls hl => ?_)
      refine lv_iload_n hx hb dX10_walks_328 rfl (lv_at hl 10 rfl) ?_
      refine lv_iload hx hb dX10_walks_329 (lv_at hl 6 rfl) ?_
      refine lv_iconst (v := iZ 3) hx hb dX10_walks_331 rfl ?_
      refine fz_icmp_ne (tgt := 346) (by decide) (by decide) hx hb dX10_walks_332 (by decide) (fun c332_ => ?_) (fun h9 => absurd h9 (by decide))
      refine lv_iload hx hb dX10_walks_346 (lv_at hl 6 rfl) ?_
      refine lv_iconst (v := iZ 5) hx hb dX10_walks_348 rfl ?_
      refine fz_icmp_ne (tgt := 356) (by decide) (by decide) hx hb dX10_walks_349 (by decide) (fun c349_ => ?_) (fun h9 => absurd h9 (by decide))
      refine lv_iconst (v := iZ 1) hx hb dX10_walks_356 rfl ?_
      refine lv_iadd hx hb dX10_walks_357 ?_
      refine lv_topi (fun x9 ex9 => ?_)
      obtain rfl : x9 = iZ (i + 1) := ex9.trans (iZ_add _ _)
      refine lv_istore_n (lv' := [(3, .int (iZ (i + 1))), (7, .int (iZ (z4))), (13, .int (iZ (0))), (12, .int (iZ (u1))), (11, .int (iZ (t))), (10, .int (iZ (x93_0))), (9, .int (iZ (x67_0))), (8, .int (iZ (2))), (6, .int (iZ (y))), (5, .int (iZ (0))), (4, .int (iZ (j))), (2, .int (iZ (o1))), (1, .int (iZ (n))), (0, .ref h0)]) hx hb dX10_walks_358 rfl hl (by decide) rfl (fun ls hl => ?_)
      refine lv_iload hx hb dX10_walks_359 (lv_at hl 10 rfl) ?_
      refine lv_iload hx hb dX10_walks_361 (lv_at hl 7 rfl) ?_
      refine lv_iconst (v := iZ 2) hx hb dX10_walks_363 rfl ?_
      refine fz_icmp_ne (tgt := 378) (by decide) (by decide) hx hb dX10_walks_364 (by decide) (fun h9 => absurd h9 (by decide)) (fun c364_ => ?_)
      refine lv_aload_n hx hb dX10_walks_367 rfl (lv_at hl 13 rfl) ?_
      refine lv_iload hx hb dX10_walks_368 (lv_at hl 4 rfl) ?_
      refine lv_iload hx hb dX10_walks_370 (lv_at hl 6 rfl) ?_
      refine va_calli (va_runV (As := [.int (iZ (t)), .int (iZ (x67_0))]) (rest := [.int (iZ (j))]) ⟨hx, hb, hml, hown, hts⟩ (m_itemsIn l dC dI cI cZ cII cIII h0 H.size μr (t) (x67_0) (la) (by first | assumption | ((try clear hne9); (try clear hj35_0); (try clear hj67_0); (try clear hj93_0); (try clear ho9); (try clear htu); show_term (have zq136 : True := trivial; omega)) | show_term (have zq136 : True := trivial; omega) | exact ⟨by (first | ((try clear hne9); (try clear hj35_0); (try clear hj67_0); (try clear hj93_0); (try clear ho9); (try clear htu); show_term (have zq137 : True := trivial; omega)) | show_term (have zq137 : True := trivial; omega)), by (first | ((try clear hne9); (try clear hj35_0); (try clear hj67_0); (try clear hj93_0); (try clear ho9); (try clear htu); show_term (have zq138 : True := trivial; omega)) | show_term (have zq138 : True := trivial; omega))⟩) (by (first | ((try clear hne9); (try clear hj35_0); (try clear hj67_0); (try clear hj93_0); (try clear ho9); (try clear htu); show_term (have zq139 : True := trivial; omega)) | show_term (have zq139 : True := trivial; omega))) (by exact sIn.2.2.1) (by exact sIn.2.2.2)) (cwV 2 hts (gV_G k1400 k1402 ks_yX10_itemsIn k13 k1403) rfl rfl rfl (by decide +kernel) ⟨by show 1 + 1 ≤ _; show_term (have zq140 : True := trivial; omega), by show 8 + (5 + 11) + (14) ≤ _; show_term (have zq141 : True := trivial; omega)⟩) ⟨fun a U g mk q => by obtain ⟨q0, q1, qP, qK⟩ := q; exact ⟨q0, q1, qP, va_K.moved (u := U) (U := U.calling g mk a) (Vm.Alike.refl U.vm) qK⟩, va_recv hK hP (ci := 10) (q0 := 0) rfl ((fw_get (by decide)).trans (by rw [mE_obj]; rfl)), fun U hU hW => ⟨rfl, by rw [hU], by rw [hU]; exact hP, va_K.moved hW.alike hK⟩⟩ rfl rfl hl.1 rfl (lv_room (Nat.le_of_ble_eq_true rfl)) dX10_walks_372 ⟨hRc, hRs⟩) hS (fun q _ h => fA_le hS.1 q h) (fA_le hS.1) (fun r9 u9 t9 H1 locs ht9 hvm9 hw9 hB9 hz9 hk9 hS => ?_)
      obtain ⟨μ5, ri⟩ := u9
      obtain ⟨hP, -⟩ := hB9
      rw [ht9] at hP
      generalize H1 = H at hP hS ⊢
      obtain ⟨e9, hw9⟩ := hw9
      have e9 : r9 = iZ ri := e9
      subst e9
      simp only at hP hw9
      have hμ5 := hw9; clear hw9
      rw [hμ5.1] at hP; have hμ5 := hμ5.2
      have hri : ri = rI la := hμ5
      refine lv_goto (tgt := 389) hx hb dX10_walks_375 (by decide) ?_
      refine lv_iadd hx hb dX10_walks_389 ?_
      refine lv_topi (fun x9 ex9 => ?_)
      obtain rfl : x9 = iZ (j + ri) := ex9.trans (iZ_add _ _)
      refine lv_istore (lv' := [(4, .int (iZ (j + ri))), (3, .int (iZ (i + 1))), (7, .int (iZ (z4))), (13, .int (iZ (0))), (12, .int (iZ (u1))), (11, .int (iZ (t))), (10, .int (iZ (x93_0))), (9, .int (iZ (x67_0))), (8, .int (iZ (2))), (6, .int (iZ (y))), (5, .int (iZ (0))), (2, .int (iZ (o1))), (1, .int (iZ (n))), (0, .ref h0)]) hx hb dX10_walks_390 hl (by decide) rfl (fun ls hl => ?_)
      refine lv_goto (tgt := 14) hx hb dX10_walks_392 (by decide) ?_
      exact ih (i + 1) (j + ri) (0) (y) (z4) μr H locs ls (by
                    rw [show (i + 1).toNat = i.toNat + 1 by (first | ((try clear hne9); (try clear hj35_0); (try clear hj67_0); (try clear hj93_0); (try clear ho9); (try clear htu); show_term (have zq142 : True := trivial; omega)) | show_term (have zq142 : True := trivial; omega)), show (j + ri).toNat = j.toNat + rI la by (first | ((try clear hne9); (try clear hj35_0); (try clear hj67_0); (try clear hj93_0); (try clear ho9); (try clear htu); show_term (have zq143 : True := trivial; omega)) | show_term (have zq143 : True := trivial; omega)), sS, rdrop_add]
                    rw [show (0 : Int).toNat = 0 from rfl, wk_01]
                    exact hN) (by (first | ((try clear hne9); (try clear hj35_0); (try clear hj67_0); (try clear hj93_0); (try clear ho9); (try clear htu); show_term (have zq144 : True := trivial; omega)) | show_term (have zq144 : True := trivial; omega))) (by (first | ((try clear hne9); (try clear hj35_0); (try clear hj67_0); (try clear hj93_0); (try clear ho9); (try clear htu); show_term (have zq145 : True := trivial; omega)) | show_term (have zq145 : True := trivial; omega))) (by first | exact Or.inl rfl | exact Or.inr (Or.inl rfl) | exact Or.inr (Or.inr rfl)) (by
                    rw [show (i + 1).toNat = i.toNat + 1 by (first | ((try clear hne9); (try clear hj35_0); (try clear hj67_0); (try clear hj93_0); (try clear ho9); (try clear htu); show_term (have zq146 : True := trivial; omega)) | show_term (have zq146 : True := trivial; omega)), show (j + ri).toNat = j.toNat + rI la by (first | ((try clear hne9); (try clear hj35_0); (try clear hj67_0); (try clear hj93_0); (try clear ho9); (try clear htu); show_term (have zq147 : True := trivial; omega)) | show_term (have zq147 : True := trivial; omega)), sS, rdrop_add]
                    obtain ⟨a1_, a2_, a3_, a4_, a5_⟩ := al_is (Or.inl rfl) hmn
                    refine alI_and0 hz4 ez4 hal ((a2_ hy9).trans ?_)
                    show ((ks == 3) && (lay ra (rdrop (rI la) (rdrop j.toNat wP))).2) = _
                    rw [beq_eq_false_iff_ne.mpr (by (first | ((try clear hne9); (try clear hj35_0); (try clear hj67_0); (try clear hj93_0); (try clear ho9); (try clear htu); show_term (have zq148 : True := trivial; omega)) | show_term (have zq148 : True := trivial; omega))), Bool.false_and]) (by (first | ((try clear hne9); (try clear hj35_0); (try clear hj67_0); (try clear hj93_0); (try clear ho9); (try clear htu); show_term (have zq149 : True := trivial; omega)) | show_term (have zq149 : True := trivial; omega))) hP hS (lv_sub hl [2, 9, 10, 0, 1, 11, 12, 13] rfl)
    · refine lv_iconst (v := iZ 1) hx hb dX10_walks_320 rfl ?_
      refine lv_goto (tgt := 325) hx hb dX10_walks_321 (by decide) ?_
      refine lv_iand hx hb dX10_walks_325 ?_
      refine lv_topi (fun x9 ex9 => ?_)
      obtain ⟨z6, rfl, hz6⟩ := iZ_ex x9
      have ez6 := ex9; clear ex9
      refine lv_istore (lv' := [(7, .int (iZ (z6))), (13, .int (iZ (0))), (12, .int (iZ (u1))), (11, .int (iZ (t))), (10, .int (iZ (x93_0))), (9, .int (iZ (x67_0))), (8, .int (iZ (2))), (6, .int (iZ (y))), (5, .int (iZ (0))), (4, .int (iZ (j))), (3, .int (iZ (i))), (2, .int (iZ (o1))), (1, .int (iZ (n))), (0, .ref h0)]) hx hb dX10_walks_326 hl (by decide) rfl (fun ls hl => ?_)
      refine lv_iload_n hx hb dX10_walks_328 rfl (lv_at hl 10 rfl) ?_
      refine lv_iload hx hb dX10_walks_329 (lv_at hl 6 rfl) ?_
      refine lv_iconst (v := iZ 3) hx hb dX10_walks_331 rfl ?_
      refine fz_icmp_ne (tgt := 346) (by decide) (by decide) hx hb dX10_walks_332 (by decide) (fun c332_ => ?_) (fun h9 => absurd h9 (by decide))
      refine lv_iload hx hb dX10_walks_346 (lv_at hl 6 rfl) ?_
      refine lv_iconst (v := iZ 5) hx hb dX10_walks_348 rfl ?_
      refine fz_icmp_ne (tgt := 356) (by decide) (by decide) hx hb dX10_walks_349 (by decide) (fun c349_ => ?_) (fun h9 => absurd h9 (by decide))
      refine lv_iconst (v := iZ 1) hx hb dX10_walks_356 rfl ?_
      refine lv_iadd hx hb dX10_walks_357 ?_
      refine lv_topi (fun x9 ex9 => ?_)
      obtain rfl : x9 = iZ (i + 1) := ex9.trans (iZ_add _ _)
      refine lv_istore_n (lv' := [(3, .int (iZ (i + 1))), (7, .int (iZ (z6))), (13, .int (iZ (0))), (12, .int (iZ (u1))), (11, .int (iZ (t))), (10, .int (iZ (x93_0))), (9, .int (iZ (x67_0))), (8, .int (iZ (2))), (6, .int (iZ (y))), (5, .int (iZ (0))), (4, .int (iZ (j))), (2, .int (iZ (o1))), (1, .int (iZ (n))), (0, .ref h0)]) hx hb dX10_walks_358 rfl hl (by decide) rfl (fun ls hl => ?_)
      refine lv_iload hx hb dX10_walks_359 (lv_at hl 10 rfl) ?_
      refine lv_iload hx hb dX10_walks_361 (lv_at hl 7 rfl) ?_
      refine lv_iconst (v := iZ 2) hx hb dX10_walks_363 rfl ?_
      refine fz_icmp_ne (tgt := 378) (by decide) (by decide) hx hb dX10_walks_364 (by decide) (fun h9 => absurd h9 (by decide)) (fun c364_ => ?_)
      refine lv_aload_n hx hb dX10_walks_367 rfl (lv_at hl 13 rfl) ?_
      refine lv_iload hx hb dX10_walks_368 (lv_at hl 4 rfl) ?_
      refine lv_iload hx hb dX10_walks_370 (lv_at hl 6 rfl) ?_
      refine va_calli (va_runV (As := [.int (iZ (t)), .int (iZ (x67_0))]) (rest := [.int (iZ (j))]) ⟨hx, hb, hml, hown, hts⟩ (m_itemsIn l dC dI cI cZ cII cIII h0 H.size μr (t) (x67_0) (la) (by first | assumption | ((try clear hne9); (try clear hj35_0); (try clear hj67_0); (try clear hj93_0); (try clear ho9); (try clear htu); show_term (have zq150 : True := trivial; omega)) | show_term (have zq150 : True := trivial; omega) | exact ⟨by (first | ((try clear hne9); (try clear hj35_0); (try clear hj67_0); (try clear hj93_0); (try clear ho9); (try clear htu); show_term (have zq151 : True := trivial; omega)) | show_term (have zq151 : True := trivial; omega)), by (first | ((try clear hne9); (try clear hj35_0); (try clear hj67_0); (try clear hj93_0); (try clear ho9); (try clear htu); show_term (have zq152 : True := trivial; omega)) | show_term (have zq152 : True := trivial; omega))⟩) (by (first | ((try clear hne9); (try clear hj35_0); (try clear hj67_0); (try clear hj93_0); (try clear ho9); (try clear htu); show_term (have zq153 : True := trivial; omega)) | show_term (have zq153 : True := trivial; omega))) (by exact sIn.2.2.1) (by exact sIn.2.2.2)) (cwV 2 hts (gV_G k1400 k1402 ks_yX10_itemsIn k13 k1403) rfl rfl rfl (by decide +kernel) ⟨by show 1 + 1 ≤ _; show_term (have zq154 : True := trivial; omega), by show 8 + (5 + 11) + (14) ≤ _; show_term (have zq155 : True := trivial; omega)⟩) ⟨fun a U g mk q => by obtain ⟨q0, q1, qP, qK⟩ := q; exact ⟨q0, q1, qP, va_K.moved (u := U) (U := U.calling g mk a) (Vm.Alike.refl U.vm) qK⟩, va_recv hK hP (ci := 10) (q0 := 0) rfl ((fw_get (by decide)).trans (by rw [mE_obj]; rfl)), fun U hU hW => ⟨rfl, by rw [hU], by rw [hU]; exact hP, va_K.moved hW.alike hK⟩⟩ rfl rfl hl.1 rfl (lv_room (Nat.le_of_ble_eq_true rfl)) dX10_walks_372 ⟨hRc, hRs⟩) hS (fun q _ h => fA_le hS.1 q h) (fA_le hS.1) (fun r9 u9 t9 H1 locs ht9 hvm9 hw9 hB9 hz9 hk9 hS => ?_)
      obtain ⟨μ7, ri⟩ := u9
      obtain ⟨hP, -⟩ := hB9
      rw [ht9] at hP
      generalize H1 = H at hP hS ⊢
      obtain ⟨e9, hw9⟩ := hw9
      have e9 : r9 = iZ ri := e9
      subst e9
      simp only at hP hw9
      have hμ7 := hw9; clear hw9
      rw [hμ7.1] at hP; have hμ7 := hμ7.2
      have hri : ri = rI la := hμ7
      refine lv_goto (tgt := 389) hx hb dX10_walks_375 (by decide) ?_
      refine lv_iadd hx hb dX10_walks_389 ?_
      refine lv_topi (fun x9 ex9 => ?_)
      obtain rfl : x9 = iZ (j + ri) := ex9.trans (iZ_add _ _)
      refine lv_istore (lv' := [(4, .int (iZ (j + ri))), (3, .int (iZ (i + 1))), (7, .int (iZ (z6))), (13, .int (iZ (0))), (12, .int (iZ (u1))), (11, .int (iZ (t))), (10, .int (iZ (x93_0))), (9, .int (iZ (x67_0))), (8, .int (iZ (2))), (6, .int (iZ (y))), (5, .int (iZ (0))), (2, .int (iZ (o1))), (1, .int (iZ (n))), (0, .ref h0)]) hx hb dX10_walks_390 hl (by decide) rfl (fun ls hl => ?_)
      refine lv_goto (tgt := 14) hx hb dX10_walks_392 (by decide) ?_
      exact ih (i + 1) (j + ri) (0) (y) (z6) μr H locs ls (by
                    rw [show (i + 1).toNat = i.toNat + 1 by (first | ((try clear hne9); (try clear hj35_0); (try clear hj67_0); (try clear hj93_0); (try clear ho9); (try clear htu); show_term (have zq156 : True := trivial; omega)) | show_term (have zq156 : True := trivial; omega)), show (j + ri).toNat = j.toNat + rI la by (first | ((try clear hne9); (try clear hj35_0); (try clear hj67_0); (try clear hj93_0); (try clear ho9); (try clear htu); show_term (have zq157 : True := trivial; omega)) | show_term (have zq157 : True := trivial; omega)), sS, rdrop_add]
                    rw [show (0 : Int).toNat = 0 from rfl, wk_01]
                    exact hN) (by (first | ((try clear hne9); (try clear hj35_0); (try clear hj67_0); (try clear hj93_0); (try clear ho9); (try clear htu); show_term (have zq158 : True := trivial; omega)) | show_term (have zq158 : True := trivial; omega))) (by (first | ((try clear hne9); (try clear hj35_0); (try clear hj67_0); (try clear hj93_0); (try clear ho9); (try clear htu); show_term (have zq159 : True := trivial; omega)) | show_term (have zq159 : True := trivial; omega))) (by first | exact Or.inl rfl | exact Or.inr (Or.inl rfl) | exact Or.inr (Or.inr rfl)) (by
                    rw [show (i + 1).toNat = i.toNat + 1 by (first | ((try clear hne9); (try clear hj35_0); (try clear hj67_0); (try clear hj93_0); (try clear ho9); (try clear htu); show_term (have zq160 : True := trivial; omega)) | show_term (have zq160 : True := trivial; omega)), show (j + ri).toNat = j.toNat + rI la by (first | ((try clear hne9); (try clear hj35_0); (try clear hj67_0); (try clear hj93_0); (try clear ho9); (try clear htu); show_term (have zq161 : True := trivial; omega)) | show_term (have zq161 : True := trivial; omega)), sS, rdrop_add]
                    obtain ⟨a1_, a2_, a3_, a4_, a5_⟩ := al_is (Or.inl rfl) hmn
                    refine alI_and1 hz6 ez6 hal ((a2_ hy9).trans ?_)
                    show ((ks == 3) && (lay ra (rdrop (rI la) (rdrop j.toNat wP))).2) = _
                    rw [beq_iff_eq.mpr (by (first | ((try clear hne9); (try clear hj35_0); (try clear hj67_0); (try clear hj93_0); (try clear ho9); (try clear htu); show_term (have zq162 : True := trivial; omega)) | show_term (have zq162 : True := trivial; omega))), Bool.true_and]) (by (first | ((try clear hne9); (try clear hj35_0); (try clear hj67_0); (try clear hj93_0); (try clear ho9); (try clear htu); show_term (have zq163 : True := trivial; omega)) | show_term (have zq163 : True := trivial; omega))) hP hS (lv_sub hl [2, 9, 10, 0, 1, 11, 12, 13] rfl)
  · clear ho9
    refine lv_iload hx hb dX10_walks_111 (lv_at hl 4 rfl) ?_
    refine lv_iconst (v := iZ 5) hx hb dX10_walks_113 rfl ?_
    refine fz_icmp_eq (tgt := 137) (by decide) (by decide) hx hb dX10_walks_114 (by decide) (fun h9 => absurd h9 (by decide)) (fun c114_ => ?_)
    refine lv_iload hx hb dX10_walks_117 (lv_at hl 4 rfl) ?_
    refine lv_iconst (v := iZ 4) hx hb dX10_walks_119 rfl ?_
    refine fz_icmp_ne (tgt := 141) (by decide) (by decide) hx hb dX10_walks_120 (by decide) (fun c120_ => ?_) (fun h9 => absurd h9 (by decide))
    refine lv_iconst (v := iZ 0) hx hb dX10_walks_141 rfl ?_
    refine lv_istore (lv' := [(13, .int (iZ (0))), (12, .int (iZ (u1))), (11, .int (iZ (t))), (10, .int (iZ (x93_0))), (9, .int (iZ (x67_0))), (8, .int (iZ (2))), (7, .int (iZ (al))), (6, .int (iZ (y))), (5, .int (iZ (4))), (4, .int (iZ (j))), (3, .int (iZ (i))), (2, .int (iZ (o1))), (1, .int (iZ (n))), (0, .ref h0)]) hx hb dX10_walks_142 hl (by decide) rfl (fun ls hl => ?_)
    refine lv_iload hx hb dX10_walks_144 (lv_at hl 8 rfl) ?_
    refine fz_if_le (tgt := 171) (by decide) hx hb dX10_walks_146 (by decide) (fun h9 => absurd h9 (by decide)) (fun c146_ => ?_)
    refine lv_iload hx hb dX10_walks_149 (lv_at hl 0 rfl) ?_
    refine fz_if_eq (tgt := 161) (by decide) hx hb dX10_walks_151 (by decide) (fun c151_ => ?_) (fun h9 => absurd h9 (by decide))
    refine lv_aload_n hx hb dX10_walks_161 rfl (lv_at hl 13 rfl) ?_
    refine lv_iload_n hx hb dX10_walks_162 rfl (lv_at hl 11 rfl) ?_
    refine lv_iload hx hb dX10_walks_163 (lv_at hl 7 rfl) ?_
    refine va_callv (va_runV (As := [.int (iZ (o1)), .int (iZ (y))]) (rest := []) ⟨hx, hb, hml, hown, hts⟩ (m_closes l dC dI cI cZ cII cIII h0 H.size μ (o1) (y) (by first | assumption | ((try clear hne9); (try clear hj35_0); (try clear hj67_0); (try clear hj93_0); (try clear ho9); (try clear htu); show_term (have zq164 : True := trivial; omega)) | show_term (have zq164 : True := trivial; omega) | exact ⟨by (first | ((try clear hne9); (try clear hj35_0); (try clear hj67_0); (try clear hj93_0); (try clear ho9); (try clear htu); show_term (have zq165 : True := trivial; omega)) | show_term (have zq165 : True := trivial; omega)), by (first | ((try clear hne9); (try clear hj35_0); (try clear hj67_0); (try clear hj93_0); (try clear ho9); (try clear htu); show_term (have zq166 : True := trivial; omega)) | show_term (have zq166 : True := trivial; omega))⟩) (by intro h; exact (wSt_cap hwc hcap h).2.2 (by (first | ((try clear hne9); (try clear hj35_0); (try clear hj67_0); (try clear hj93_0); (try clear ho9); (try clear htu); show_term (have zq167 : True := trivial; omega)) | show_term (have zq167 : True := trivial; omega))))) (cwV 2 hts (gV_G k1420 k1422 ks_yX10_closes k13 k1423) rfl rfl rfl (by decide +kernel) ⟨by show 1 + 1 ≤ _; show_term (have zq168 : True := trivial; omega), by show 8 + (3 + 11) + (14) ≤ _; show_term (have zq169 : True := trivial; omega)⟩) ⟨fun a U g mk q => by obtain ⟨q0, q1, qP, qK⟩ := q; exact ⟨q0, q1, qP, va_K.moved (u := U) (U := U.calling g mk a) (Vm.Alike.refl U.vm) qK⟩, va_recv hK hP (ci := 10) (q0 := 0) rfl ((fw_get (by decide)).trans (by rw [mE_obj]; rfl)), fun U hU hW => ⟨rfl, by rw [hU], by rw [hU]; exact hP, va_K.moved hW.alike hK⟩⟩ rfl rfl hl.1 rfl (lv_room (Nat.le_of_ble_eq_true rfl)) dX10_walks_165 ⟨hRc, hRs⟩) hS (fun q _ h => fA_le hS.1 q h) (fA_le hS.1) (fun u9 t9 H1 locs ht9 hvm9 hw9 hB9 hz9 hk9 hS => ?_)
    obtain ⟨hP, -⟩ := hB9
    rw [ht9] at hP
    generalize H1 = H at hP hS ⊢
    obtain ⟨μd, eμd⟩ : ∃ x : va_M, x = u9 := ⟨_, rfl⟩
    rw [← eμd] at hP hw9
    have hμd := hw9; clear hw9
    have hC := wSt_close hwc (by (first | ((try clear hne9); (try clear hj35_0); (try clear hj67_0); (try clear hj93_0); (try clear ho9); (try clear htu); show_term (have zq170 : True := trivial; omega)) | show_term (have zq170 : True := trivial; omega))) (by (first | ((try clear hne9); (try clear hj35_0); (try clear hj67_0); (try clear hj93_0); (try clear ho9); (try clear htu); show_term (have zq171 : True := trivial; omega)) | show_term (have zq171 : True := trivial; omega))) hμd y
    refine lv_iconst (v := iZ 0) hx hb dX10_walks_168 rfl ?_
    refine lv_istore (lv' := [(5, .int (iZ (0))), (13, .int (iZ (0))), (12, .int (iZ (u1))), (11, .int (iZ (t))), (10, .int (iZ (x93_0))), (9, .int (iZ (x67_0))), (8, .int (iZ (2))), (7, .int (iZ (al))), (6, .int (iZ (y))), (4, .int (iZ (j))), (3, .int (iZ (i))), (2, .int (iZ (o1))), (1, .int (iZ (n))), (0, .ref h0)]) hx hb dX10_walks_169 hl (by decide) rfl (fun ls hl => ?_)
    have hLx := lvS_wSt hL hC (by (first | ((try clear hne9); (try clear hj35_0); (try clear hj67_0); (try clear hj93_0); (try clear ho9); (try clear htu); show_term (have zq172 : True := trivial; omega)) | show_term (have zq172 : True := trivial; omega))) ht hu ho
    have sIA : IA μd t.toNat x67_0.toNat ks vs la := by rw [hx_s]; exact IA_S hLx (by (first | ((try clear hne9); (try clear hj35_0); (try clear hj67_0); (try clear hj93_0); (try clear ho9); (try clear htu); show_term (have zq173 : True := trivial; omega)) | show_term (have zq173 : True := trivial; omega))) hes
    refine lv_iload hx hb dX10_walks_171 (lv_at hl 1 rfl) ?_
    refine fz_if_eq (tgt := 194) (by decide) hx hb dX10_walks_173 (by decide) (fun c173_ => ?_) (fun h9 => absurd h9 (by decide))
    refine lv_iload hx hb dX10_walks_194 (lv_at hl 6 rfl) ?_
    refine lv_iconst (v := iZ 1) hx hb dX10_walks_196 rfl ?_
    refine fz_icmp_ne (tgt := 211) (by decide) (by decide) hx hb dX10_walks_197 (by decide) (fun c197_ => ?_) (fun h9 => absurd h9 (by decide))
    refine lv_iload hx hb dX10_walks_211 (lv_at hl 6 rfl) ?_
    refine lv_iconst (v := iZ 2) hx hb dX10_walks_213 rfl ?_
    refine fz_icmp_ne (tgt := 237) (by decide) (by decide) hx hb dX10_walks_214 (by decide) (fun h9 => absurd h9 (by decide)) (fun c214_ => ?_)
    refine lv_aload_n hx hb dX10_walks_217 rfl (lv_at hl 13 rfl) ?_
    refine lv_iload hx hb dX10_walks_218 (lv_at hl 3 rfl) ?_
    refine lv_iload hx hb dX10_walks_220 (lv_at hl 5 rfl) ?_
    refine lv_iload hx hb dX10_walks_222 (lv_at hl 2 rfl) ?_
    refine lv_aload_n hx hb dX10_walks_224 rfl (lv_at hl 13 rfl) ?_
    refine fz_get (D := (dC, dI)) (ci := 10) (v := .ref (h0 + 737)) (C := RX10) (T := TX10) (N := 53) hx hb hts inG10 hown hK hP (k := 0) (by decide) (F := mF h0) mE_obj rfl 30 (by decide) (hts _ k1196) (fun _ h9 => h9) rfl dX10_walks_225 ?_
    refine lv_iload_n hx hb dX10_walks_228 rfl (lv_at hl 12 rfl) ?_
    refine fz_ald (k := 737) (n := 14) (k2 := (738 + (n).toNat)) hx hb hK hP 2 rfl (by decide) mE_rowP rfl ⟨by (first | ((try clear hne9); (try clear hj35_0); (try clear hj67_0); (try clear hj93_0); (try clear ho9); (try clear htu); show_term (have zq174 : True := trivial; omega)) | show_term (have zq174 : True := trivial; omega)), by (first | ((try clear hne9); (try clear hj35_0); (try clear hj67_0); (try clear hj93_0); (try clear ho9); (try clear htu); show_term (have zq175 : True := trivial; omega)) | show_term (have zq175 : True := trivial; omega))⟩ (by decide) (if_pos (by (first | ((try clear hne9); (try clear hj35_0); (try clear hj67_0); (try clear hj93_0); (try clear ho9); (try clear htu); show_term (have zq176 : True := trivial; omega)) | show_term (have zq176 : True := trivial; omega)))) dX10_walks_229 ?_
    refine lv_iload hx hb dX10_walks_230 (lv_at hl 9 rfl) ?_
    refine lv_iload_n hx hb dX10_walks_232 rfl (lv_at hl 11 rfl) ?_
    refine va_calli (va_runV (As := [.int (iZ (t)), .int (iZ (x67_0)), .int (iZ (u1)), .ref (h0 + (738 + (n).toNat)), .int (iZ (j)), .int (iZ (o1))]) (rest := []) ⟨hx, hb, hml, hown, hts⟩ (m_fusesRow l dC dI cI cZ cII cIII h0 H.size μd (t) (x67_0) (u1) ((738 + n.toNat)) (j) (o1) (ks) (vs) (la) (wP) (pq) (by first | assumption | ((try clear hne9); (try clear hj35_0); (try clear hj67_0); (try clear hj93_0); (try clear ho9); (try clear htu); show_term (have zq177 : True := trivial; omega)) | show_term (have zq177 : True := trivial; omega) | exact ⟨by (first | ((try clear hne9); (try clear hj35_0); (try clear hj67_0); (try clear hj93_0); (try clear ho9); (try clear htu); show_term (have zq178 : True := trivial; omega)) | show_term (have zq178 : True := trivial; omega)), by (first | ((try clear hne9); (try clear hj35_0); (try clear hj67_0); (try clear hj93_0); (try clear ho9); (try clear htu); show_term (have zq179 : True := trivial; omega)) | show_term (have zq179 : True := trivial; omega))⟩) (by first | assumption | ((try clear hne9); (try clear hj35_0); (try clear hj67_0); (try clear hj93_0); (try clear ho9); (try clear htu); show_term (have zq180 : True := trivial; omega)) | show_term (have zq180 : True := trivial; omega) | exact ⟨by (first | ((try clear hne9); (try clear hj35_0); (try clear hj67_0); (try clear hj93_0); (try clear ho9); (try clear htu); show_term (have zq181 : True := trivial; omega)) | show_term (have zq181 : True := trivial; omega)), by (first | ((try clear hne9); (try clear hj35_0); (try clear hj67_0); (try clear hj93_0); (try clear ho9); (try clear htu); show_term (have zq182 : True := trivial; omega)) | show_term (have zq182 : True := trivial; omega))⟩) (by (first | ((try clear hne9); (try clear hj35_0); (try clear hj67_0); (try clear hj93_0); (try clear ho9); (try clear htu); show_term (have zq183 : True := trivial; omega)) | show_term (have zq183 : True := trivial; omega))) (by exact sIA) (by exact sF) (by exact Or.inr ⟨by (first | ((try clear hne9); (try clear hj35_0); (try clear hj67_0); (try clear hj93_0); (try clear ho9); (try clear htu); show_term (have zq184 : True := trivial; omega)) | show_term (have zq184 : True := trivial; omega)), by (first | ((try clear hne9); (try clear hj35_0); (try clear hj67_0); (try clear hj93_0); (try clear ho9); (try clear htu); show_term (have zq185 : True := trivial; omega)) | show_term (have zq185 : True := trivial; omega))⟩) (by exact hLx.2.2.2.2.2.1) (by exact hLx.2.2.2.2.2.2.2) (by exact hpq) (by exact hwP) (by (first | ((try clear hne9); (try clear hj35_0); (try clear hj67_0); (try clear hj93_0); (try clear ho9); (try clear htu); show_term (have zq186 : True := trivial; omega)) | show_term (have zq186 : True := trivial; omega))) (by exact hj) (by (first | ((try clear hne9); (try clear hj35_0); (try clear hj67_0); (try clear hj93_0); (try clear ho9); (try clear htu); show_term (have zq187 : True := trivial; omega)) | show_term (have zq187 : True := trivial; omega))) (by (first | ((try clear hne9); (try clear hj35_0); (try clear hj67_0); (try clear hj93_0); (try clear ho9); (try clear htu); show_term (have zq188 : True := trivial; omega)) | show_term (have zq188 : True := trivial; omega))) (by exact hnx) (by intro h; have h9 := wSt_cap hC hcap h; rw [rN_in, hnN] at h9; show_term (have zq189 : True := trivial; omega))) (cwV 6 hts (gV_G k1468 k1470 ks_yX10_fusesRow k13 k1471) rfl rfl rfl (by decide +kernel) ⟨by show 24 + 1 ≤ _; show_term (have zq190 : True := trivial; omega), by show 8 + (11 + 11) + (740) ≤ _; show_term (have zq191 : True := trivial; omega)⟩) ⟨fun a U g mk q => by obtain ⟨q0, q1, qP, qK⟩ := q; exact ⟨q0, q1, qP, va_K.moved (u := U) (U := U.calling g mk a) (Vm.Alike.refl U.vm) qK⟩, va_recv hK hP (ci := 10) (q0 := 0) rfl ((fw_get (by decide)).trans (by rw [mE_obj]; rfl)), fun U hU hW => ⟨rfl, by rw [hU], by rw [hU]; exact hP, va_K.moved hW.alike hK⟩⟩ rfl rfl hl.1 rfl (lv_room (Nat.le_of_ble_eq_true rfl)) dX10_walks_233 ⟨hRc, hRs⟩) hS (fun q _ h => fA_le hS.1 q h) (fA_le hS.1) (fun r9 u9 t9 H1 locs ht9 hvm9 hw9 hB9 hz9 hk9 hS => ?_)
    obtain ⟨μr, rr9⟩ := u9
    obtain ⟨hP, -⟩ := hB9
    rw [ht9] at hP
    generalize H1 = H at hP hS ⊢
    obtain ⟨e9, hw9⟩ := hw9
    have e9 : r9 = iZ rr9 := e9
    subst e9
    simp only at hP hw9
    have hμr := hw9; clear hw9
    have hN := wSt_it0 hC (by (first | ((try clear hne9); (try clear hj35_0); (try clear hj67_0); (try clear hj93_0); (try clear ho9); (try clear htu); show_term (have zq192 : True := trivial; omega)) | show_term (have zq192 : True := trivial; omega))) (layO_fu hμr hnN) y
    have hLn := lvS_wSt hL hN (by (first | ((try clear hne9); (try clear hj35_0); (try clear hj67_0); (try clear hj93_0); (try clear ho9); (try clear htu); show_term (have zq193 : True := trivial; omega)) | show_term (have zq193 : True := trivial; omega))) ht hu ho
    have sIn : IA μr t.toNat x67_0.toNat ks vs la := by rw [hx_s]; exact IA_S hLn (by (first | ((try clear hne9); (try clear hj35_0); (try clear hj67_0); (try clear hj93_0); (try clear ho9); (try clear htu); show_term (have zq194 : True := trivial; omega)) | show_term (have zq194 : True := trivial; omega))) hes
    refine lv_pop hx hb dX10_walks_236 rfl ?_
    refine lv_iload hx hb dX10_walks_237 (lv_at hl 6 rfl) ?_
    refine lv_iconst (v := iZ 3) hx hb dX10_walks_239 rfl ?_
    refine fz_icmp_ne (tgt := 262) (by decide) (by decide) hx hb dX10_walks_240 (by decide) (fun c240_ => ?_) (fun h9 => absurd h9 (by decide))
    refine lv_iload hx hb dX10_walks_262 (lv_at hl 6 rfl) ?_
    refine lv_iconst (v := iZ 4) hx hb dX10_walks_264 rfl ?_
    refine fz_icmp_ne (tgt := 277) (by decide) (by decide) hx hb dX10_walks_265 (by decide) (fun c265_ => ?_) (fun h9 => absurd h9 (by decide))
    refine lv_iload hx hb dX10_walks_277 (lv_at hl 6 rfl) ?_
    refine lv_iconst (v := iZ 5) hx hb dX10_walks_279 rfl ?_
    refine fz_icmp_ne (tgt := 292) (by decide) (by decide) hx hb dX10_walks_280 (by decide) (fun c280_ => ?_) (fun h9 => absurd h9 (by decide))
    refine lv_iload hx hb dX10_walks_292 (lv_at hl 7 rfl) ?_
    refine lv_iload hx hb dX10_walks_294 (lv_at hl 6 rfl) ?_
    refine lv_iconst (v := iZ 3) hx hb dX10_walks_296 rfl ?_
    refine fz_icmp_gt (tgt := 320) (by decide) (by decide) hx hb dX10_walks_297 (by decide) (fun h9 => absurd h9 (by decide)) (fun c297_ => ?_)
    refine lv_iload hx hb dX10_walks_300 (lv_at hl 6 rfl) ?_
    refine lv_iconst (v := iZ 2) hx hb dX10_walks_302 rfl ?_
    refine fz_icmp_ne (tgt := 324) (by decide) (by decide) hx hb dX10_walks_303 (by decide) (fun h9 => absurd h9 (by decide)) (fun c303_ => ?_)
    refine lv_aload_n hx hb dX10_walks_306 rfl (lv_at hl 13 rfl) ?_
    refine fz_get (D := (dC, dI)) (ci := 10) (v := .ref (h0 + 506)) (C := RX10) (T := TX10) (N := 53) hx hb hts inG10 hown hK hP (k := 0) (by decide) (F := mF h0) mE_obj rfl 18 (by decide) (hts _ k1184) (fun _ h9 => h9) rfl dX10_walks_307 ?_
    refine lv_iload hx hb dX10_walks_310 (lv_at hl 3 rfl) ?_
    refine fz_ald (k := 506) (n := 70) (k2 := (507 + (t).toNat)) hx hb hK hP 2 rfl (by decide) mE_sort rfl ⟨by (first | ((try clear hne9); (try clear hj35_0); (try clear hj67_0); (try clear hj93_0); (try clear ho9); (try clear htu); show_term (have zq195 : True := trivial; omega)) | show_term (have zq195 : True := trivial; omega)), by (first | ((try clear hne9); (try clear hj35_0); (try clear hj67_0); (try clear hj93_0); (try clear ho9); (try clear htu); show_term (have zq196 : True := trivial; omega)) | show_term (have zq196 : True := trivial; omega))⟩ (by decide) (if_pos (by (first | ((try clear hne9); (try clear hj35_0); (try clear hj67_0); (try clear hj93_0); (try clear ho9); (try clear htu); show_term (have zq197 : True := trivial; omega)) | show_term (have zq197 : True := trivial; omega)))) dX10_walks_312 ?_
    refine lv_iload hx hb dX10_walks_313 (lv_at hl 5 rfl) ?_
    refine fz_ld (k := (507 + (t).toNat)) (n := 900) hx hb hK hP 0 (by (first | ((try clear hne9); (try clear hj35_0); (try clear hj67_0); (try clear hj93_0); (try clear ho9); (try clear htu); show_term (have zq198 : True := trivial; omega)) | show_term (have zq198 : True := trivial; omega))) (mE_sortR (by (first | ((try clear hne9); (try clear hj35_0); (try clear hj67_0); (try clear hj93_0); (try clear ho9); (try clear htu); show_term (have zq199 : True := trivial; omega)) | show_term (have zq199 : True := trivial; omega)))) rfl ⟨by (first | ((try clear hne9); (try clear hj35_0); (try clear hj67_0); (try clear hj93_0); (try clear ho9); (try clear htu); show_term (have zq200 : True := trivial; omega)) | show_term (have zq200 : True := trivial; omega)), by (first | ((try clear hne9); (try clear hj35_0); (try clear hj67_0); (try clear hj93_0); (try clear ho9); (try clear htu); show_term (have zq201 : True := trivial; omega)) | show_term (have zq201 : True := trivial; omega))⟩ (by decide) dX10_walks_315 ?_
    rw [show μr (507 + (t).toNat) (x67_0).toNat = (ks : Int) from (by exact sIn.1)]
    refine lv_iconst (v := iZ 3) hx hb dX10_walks_316 rfl ?_
    refine fz_icmp_ne (tgt := 324) (by constructor <;> (first | ((try clear hne9); (try clear hj35_0); (try clear hj67_0); (try clear hj93_0); (try clear ho9); (try clear htu); show_term (have zq202 : True := trivial; omega)) | show_term (have zq202 : True := trivial; omega))) (by decide) hx hb dX10_walks_317 (by decide) (fun c317_ => ?_) (fun c317_ => ?_)
    · refine lv_iconst (v := iZ 0) hx hb dX10_walks_324 rfl ?_
      refine lv_iand hx hb dX10_walks_325 ?_
      refine lv_topi (fun x9 ex9 => ?_)
      obtain ⟨z8, rfl, hz8⟩ := iZ_ex x9
      have ez8 := ex9; clear ex9
      refine lv_istore (lv' := [(7, .int (iZ (z8))), (5, .int (iZ (0))), (13, .int (iZ (0))), (12, .int (iZ (u1))), (11, .int (iZ (t))), (10, .int (iZ (x93_0))), (9, .int (iZ (x67_0))), (8, .int (iZ (2))), (6, .int (iZ (y))), (4, .int (iZ (j))), (3, .int (iZ (i))), (2, .int (iZ (o1))), (1, .int (iZ (n))), (0, .ref h0)]) hx hb dX10_walks_326 hl (by decide) rfl (fun ls hl => ?_)
      refine lv_iload_n hx hb dX10_walks_328 rfl (lv_at hl 10 rfl) ?_
      refine lv_iload hx hb dX10_walks_329 (lv_at hl 7 rfl) ?_
      refine lv_iconst (v := iZ 3) hx hb dX10_walks_331 rfl ?_
      refine fz_icmp_ne (tgt := 346) (by decide) (by decide) hx hb dX10_walks_332 (by decide) (fun c332_ => ?_) (fun h9 => absurd h9 (by decide))
      refine lv_iload hx hb dX10_walks_346 (lv_at hl 7 rfl) ?_
      refine lv_iconst (v := iZ 5) hx hb dX10_walks_348 rfl ?_
      refine fz_icmp_ne (tgt := 356) (by decide) (by decide) hx hb dX10_walks_349 (by decide) (fun c349_ => ?_) (fun h9 => absurd h9 (by decide))
      refine lv_iconst (v := iZ 1) hx hb dX10_walks_356 rfl ?_
      refine lv_iadd hx hb dX10_walks_357 ?_
      refine lv_topi (fun x9 ex9 => ?_)
      obtain rfl : x9 = iZ (i + 1) := ex9.trans (iZ_add _ _)
      refine lv_istore_n (lv' := [(3, .int (iZ (i + 1))), (7, .int (iZ (z8))), (5, .int (iZ (0))), (13, .int (iZ (0))), (12, .int (iZ (u1))), (11, .int (iZ (t))), (10, .int (iZ (x93_0))), (9, .int (iZ (x67_0))), (8, .int (iZ (2))), (6, .int (iZ (y))), (4, .int (iZ (j))), (2, .int (iZ (o1))), (1, .int (iZ (n))), (0, .ref h0)]) hx hb dX10_walks_358 rfl hl (by decide) rfl (fun ls hl => ?_)
      refine lv_iload hx hb dX10_walks_359 (lv_at hl 10 rfl) ?_
      refine lv_iload hx hb dX10_walks_361 (lv_at hl 8 rfl) ?_
      refine lv_iconst (v := iZ 2) hx hb dX10_walks_363 rfl ?_
      refine fz_icmp_ne (tgt := 378) (by decide) (by decide) hx hb dX10_walks_364 (by decide) (fun h9 => absurd h9 (by decide)) (fun c364_ => ?_)
      refine lv_aload_n hx hb dX10_walks_367 rfl (lv_at hl 13 rfl) ?_
      refine lv_iload hx hb dX10_walks_368 (lv_at hl 5 rfl) ?_
      refine lv_iload hx hb dX10_walks_370 (lv_at hl 7 rfl) ?_
      refine va_calli (va_runV (As := [.int (iZ (t)), .int (iZ (x67_0))]) (rest := [.int (iZ (j))]) ⟨hx, hb, hml, hown, hts⟩ (m_itemsIn l dC dI cI cZ cII cIII h0 H.size μr (t) (x67_0) (la) (by first | assumption | ((try clear hne9); (try clear hj35_0); (try clear hj67_0); (try clear hj93_0); (try clear ho9); (try clear htu); show_term (have zq203 : True := trivial; omega)) | show_term (have zq203 : True := trivial; omega) | exact ⟨by (first | ((try clear hne9); (try clear hj35_0); (try clear hj67_0); (try clear hj93_0); (try clear ho9); (try clear htu); show_term (have zq204 : True := trivial; omega)) | show_term (have zq204 : True := trivial; omega)), by (first | ((try clear hne9); (try clear hj35_0); (try clear hj67_0); (try clear hj93_0); (try clear ho9); (try clear htu); show_term (have zq205 : True := trivial; omega)) | show_term (have zq205 : True := trivial; omega))⟩) (by (first | ((try clear hne9); (try clear hj35_0); (try clear hj67_0); (try clear hj93_0); (try clear ho9); (try clear htu); show_term (have zq206 : True := trivial; omega)) | show_term (have zq206 : True := trivial; omega))) (by exact sIn.2.2.1) (by exact sIn.2.2.2)) (cwV 2 hts (gV_G k1400 k1402 ks_yX10_itemsIn k13 k1403) rfl rfl rfl (by decide +kernel) ⟨by show 1 + 1 ≤ _; show_term (have zq207 : True := trivial; omega), by show 8 + (5 + 11) + (14) ≤ _; show_term (have zq208 : True := trivial; omega)⟩) ⟨fun a U g mk q => by obtain ⟨q0, q1, qP, qK⟩ := q; exact ⟨q0, q1, qP, va_K.moved (u := U) (U := U.calling g mk a) (Vm.Alike.refl U.vm) qK⟩, va_recv hK hP (ci := 10) (q0 := 0) rfl ((fw_get (by decide)).trans (by rw [mE_obj]; rfl)), fun U hU hW => ⟨rfl, by rw [hU], by rw [hU]; exact hP, va_K.moved hW.alike hK⟩⟩ rfl rfl hl.1 rfl (lv_room (Nat.le_of_ble_eq_true rfl)) dX10_walks_372 ⟨hRc, hRs⟩) hS (fun q _ h => fA_le hS.1 q h) (fA_le hS.1) (fun r9 u9 t9 H1 locs ht9 hvm9 hw9 hB9 hz9 hk9 hS => ?_)
      obtain ⟨μ10, ri⟩ := u9
      obtain ⟨hP, -⟩ := hB9
      rw [ht9] at hP
      generalize H1 = H at hP hS ⊢
      obtain ⟨e9, hw9⟩ := hw9
      have e9 : r9 = iZ ri := e9
      subst e9
      simp only at hP hw9
      have hμ10 := hw9; clear hw9
      rw [hμ10.1] at hP; have hμ10 := hμ10.2
      have hri : ri = rI la := hμ10
      refine lv_goto (tgt := 389) hx hb dX10_walks_375 (by decide) ?_
      refine lv_iadd hx hb dX10_walks_389 ?_
      refine lv_topi (fun x9 ex9 => ?_)
      obtain rfl : x9 = iZ (j + ri) := ex9.trans (iZ_add _ _)
      refine lv_istore (lv' := [(4, .int (iZ (j + ri))), (3, .int (iZ (i + 1))), (7, .int (iZ (z8))), (5, .int (iZ (0))), (13, .int (iZ (0))), (12, .int (iZ (u1))), (11, .int (iZ (t))), (10, .int (iZ (x93_0))), (9, .int (iZ (x67_0))), (8, .int (iZ (2))), (6, .int (iZ (y))), (2, .int (iZ (o1))), (1, .int (iZ (n))), (0, .ref h0)]) hx hb dX10_walks_390 hl (by decide) rfl (fun ls hl => ?_)
      refine lv_goto (tgt := 14) hx hb dX10_walks_392 (by decide) ?_
      exact ih (i + 1) (j + ri) (0) (y) (z8) μr H locs ls (by
                    rw [show (i + 1).toNat = i.toNat + 1 by (first | ((try clear hne9); (try clear hj35_0); (try clear hj67_0); (try clear hj93_0); (try clear ho9); (try clear htu); show_term (have zq209 : True := trivial; omega)) | show_term (have zq209 : True := trivial; omega)), show (j + ri).toNat = j.toNat + rI la by (first | ((try clear hne9); (try clear hj35_0); (try clear hj67_0); (try clear hj93_0); (try clear ho9); (try clear htu); show_term (have zq210 : True := trivial; omega)) | show_term (have zq210 : True := trivial; omega)), sS, rdrop_add]
                    rw [show (0 : Int).toNat = 0 from rfl, wk_01]
                    exact hN) (by (first | ((try clear hne9); (try clear hj35_0); (try clear hj67_0); (try clear hj93_0); (try clear ho9); (try clear htu); show_term (have zq211 : True := trivial; omega)) | show_term (have zq211 : True := trivial; omega))) (by (first | ((try clear hne9); (try clear hj35_0); (try clear hj67_0); (try clear hj93_0); (try clear ho9); (try clear htu); show_term (have zq212 : True := trivial; omega)) | show_term (have zq212 : True := trivial; omega))) (by first | exact Or.inl rfl | exact Or.inr (Or.inl rfl) | exact Or.inr (Or.inr rfl)) (by
                    rw [show (i + 1).toNat = i.toNat + 1 by (first | ((try clear hne9); (try clear hj35_0); (try clear hj67_0); (try clear hj93_0); (try clear ho9); (try clear htu); show_term (have zq213 : True := trivial; omega)) | show_term (have zq213 : True := trivial; omega)), show (j + ri).toNat = j.toNat + rI la by (first | ((try clear hne9); (try clear hj35_0); (try clear hj67_0); (try clear hj93_0); (try clear ho9); (try clear htu); show_term (have zq214 : True := trivial; omega)) | show_term (have zq214 : True := trivial; omega)), sS, rdrop_add]
                    obtain ⟨a1_, a2_, a3_, a4_, a5_⟩ := al_is (Or.inl rfl) hmn
                    refine alI_and0 hz8 ez8 hal ((a2_ hy9).trans ?_)
                    show ((ks == 3) && (lay ra (rdrop (rI la) (rdrop j.toNat wP))).2) = _
                    rw [beq_eq_false_iff_ne.mpr (by (first | ((try clear hne9); (try clear hj35_0); (try clear hj67_0); (try clear hj93_0); (try clear ho9); (try clear htu); show_term (have zq215 : True := trivial; omega)) | show_term (have zq215 : True := trivial; omega))), Bool.false_and]) (by (first | ((try clear hne9); (try clear hj35_0); (try clear hj67_0); (try clear hj93_0); (try clear ho9); (try clear htu); show_term (have zq216 : True := trivial; omega)) | show_term (have zq216 : True := trivial; omega))) hP hS (lv_sub hl [2, 10, 3, 0, 1, 11, 12, 13] rfl)
    · refine lv_iconst (v := iZ 1) hx hb dX10_walks_320 rfl ?_
      refine lv_goto (tgt := 325) hx hb dX10_walks_321 (by decide) ?_
      refine lv_iand hx hb dX10_walks_325 ?_
      refine lv_topi (fun x9 ex9 => ?_)
      obtain ⟨z11, rfl, hz11⟩ := iZ_ex x9
      have ez11 := ex9; clear ex9
      refine lv_istore (lv' := [(7, .int (iZ (z11))), (5, .int (iZ (0))), (13, .int (iZ (0))), (12, .int (iZ (u1))), (11, .int (iZ (t))), (10, .int (iZ (x93_0))), (9, .int (iZ (x67_0))), (8, .int (iZ (2))), (6, .int (iZ (y))), (4, .int (iZ (j))), (3, .int (iZ (i))), (2, .int (iZ (o1))), (1, .int (iZ (n))), (0, .ref h0)]) hx hb dX10_walks_326 hl (by decide) rfl (fun ls hl => ?_)
      refine lv_iload_n hx hb dX10_walks_328 rfl (lv_at hl 10 rfl) ?_
      refine lv_iload hx hb dX10_walks_329 (lv_at hl 7 rfl) ?_
      refine lv_iconst (v := iZ 3) hx hb dX10_walks_331 rfl ?_
      refine fz_icmp_ne (tgt := 346) (by decide) (by decide) hx hb dX10_walks_332 (by decide) (fun c332_ => ?_) (fun h9 => absurd h9 (by decide))
      refine lv_iload hx hb dX10_walks_346 (lv_at hl 7 rfl) ?_
      refine lv_iconst (v := iZ 5) hx hb dX10_walks_348 rfl ?_
      refine fz_icmp_ne (tgt := 356) (by decide) (by decide) hx hb dX10_walks_349 (by decide) (fun c349_ => ?_) (fun h9 => absurd h9 (by decide))
      refine lv_iconst (v := iZ 1) hx hb dX10_walks_356 rfl ?_
      refine lv_iadd hx hb dX10_walks_357 ?_
      refine lv_topi (fun x9 ex9 => ?_)
      obtain rfl : x9 = iZ (i + 1) := ex9.trans (iZ_add _ _)
      refine lv_istore_n (lv' := [(3, .int (iZ (i + 1))), (7, .int (iZ (z11))), (5, .int (iZ (0))), (13, .int (iZ (0))), (12, .int (iZ (u1))), (11, .int (iZ (t))), (10, .int (iZ (x93_0))), (9, .int (iZ (x67_0))), (8, .int (iZ (2))), (6, .int (iZ (y))), (4, .int (iZ (j))), (2, .int (iZ (o1))), (1, .int (iZ (n))), (0, .ref h0)]) hx hb dX10_walks_358 rfl hl (by decide) rfl (fun ls hl => ?_)
      refine lv_iload hx hb dX10_walks_359 (lv_at hl 10 rfl) ?_
      refine lv_iload hx hb dX10_walks_361 (lv_at hl 8 rfl) ?_
      refine lv_iconst (v := iZ 2) hx hb dX10_walks_363 rfl ?_
      refine fz_icmp_ne (tgt := 378) (by decide) (by decide) hx hb dX10_walks_364 (by decide) (fun h9 => absurd h9 (by decide)) (fun c364_ => ?_)
      refine lv_aload_n hx hb dX10_walks_367 rfl (lv_at hl 13 rfl) ?_
      refine lv_iload hx hb dX10_walks_368 (lv_at hl 5 rfl) ?_
      refine lv_iload hx hb dX10_walks_370 (lv_at hl 7 rfl) ?_
      refine va_calli (va_runV (As := [.int (iZ (t)), .int (iZ (x67_0))]) (rest := [.int (iZ (j))]) ⟨hx, hb, hml, hown, hts⟩ (m_itemsIn l dC dI cI cZ cII cIII h0 H.size μr (t) (x67_0) (la) (by first | assumption | ((try clear hne9); (try clear hj35_0); (try clear hj67_0); (try clear hj93_0); (try clear ho9); (try clear htu); show_term (have zq217 : True := trivial; omega)) | show_term (have zq217 : True := trivial; omega) | exact ⟨by (first | ((try clear hne9); (try clear hj35_0); (try clear hj67_0); (try clear hj93_0); (try clear ho9); (try clear htu); show_term (have zq218 : True := trivial; omega)) | show_term (have zq218 : True := trivial; omega)), by (first | ((try clear hne9); (try clear hj35_0); (try clear hj67_0); (try clear hj93_0); (try clear ho9); (try clear htu); show_term (have zq219 : True := trivial; omega)) | show_term (have zq219 : True := trivial; omega))⟩) (by (first | ((try clear hne9); (try clear hj35_0); (try clear hj67_0); (try clear hj93_0); (try clear ho9); (try clear htu); show_term (have zq220 : True := trivial; omega)) | show_term (have zq220 : True := trivial; omega))) (by exact sIn.2.2.1) (by exact sIn.2.2.2)) (cwV 2 hts (gV_G k1400 k1402 ks_yX10_itemsIn k13 k1403) rfl rfl rfl (by decide +kernel) ⟨by show 1 + 1 ≤ _; show_term (have zq221 : True := trivial; omega), by show 8 + (5 + 11) + (14) ≤ _; show_term (have zq222 : True := trivial; omega)⟩) ⟨fun a U g mk q => by obtain ⟨q0, q1, qP, qK⟩ := q; exact ⟨q0, q1, qP, va_K.moved (u := U) (U := U.calling g mk a) (Vm.Alike.refl U.vm) qK⟩, va_recv hK hP (ci := 10) (q0 := 0) rfl ((fw_get (by decide)).trans (by rw [mE_obj]; rfl)), fun U hU hW => ⟨rfl, by rw [hU], by rw [hU]; exact hP, va_K.moved hW.alike hK⟩⟩ rfl rfl hl.1 rfl (lv_room (Nat.le_of_ble_eq_true rfl)) dX10_walks_372 ⟨hRc, hRs⟩) hS (fun q _ h => fA_le hS.1 q h) (fA_le hS.1) (fun r9 u9 t9 H1 locs ht9 hvm9 hw9 hB9 hz9 hk9 hS => ?_)
      obtain ⟨μ12, ri⟩ := u9
      obtain ⟨hP, -⟩ := hB9
      rw [ht9] at hP
      generalize H1 = H at hP hS ⊢
      obtain ⟨e9, hw9⟩ := hw9
      have e9 : r9 = iZ ri := e9
      subst e9
      simp only at hP hw9
      have hμ12 := hw9; clear hw9
      rw [hμ12.1] at hP; have hμ12 := hμ12.2
      have hri : ri = rI la := hμ12
      refine lv_goto (tgt := 389) hx hb dX10_walks_375 (by decide) ?_
      refine lv_iadd hx hb dX10_walks_389 ?_
      refine lv_topi (fun x9 ex9 => ?_)
      obtain rfl : x9 = iZ (j + ri) := ex9.trans (iZ_add _ _)
      refine lv_istore (lv' := [(4, .int (iZ (j + ri))), (3, .int (iZ (i + 1))), (7, .int (iZ (z11))), (5, .int (iZ (0))), (13, .int (iZ (0))), (12, .int (iZ (u1))), (11, .int (iZ (t))), (10, .int (iZ (x93_0))), (9, .int (iZ (x67_0))), (8, .int (iZ (2))), (6, .int (iZ (y))), (2, .int (iZ (o1))), (1, .int (iZ (n))), (0, .ref h0)]) hx hb dX10_walks_390 hl (by decide) rfl (fun ls hl => ?_)
      refine lv_goto (tgt := 14) hx hb dX10_walks_392 (by decide) ?_
      exact ih (i + 1) (j + ri) (0) (y) (z11) μr H locs ls (by
                    rw [show (i + 1).toNat = i.toNat + 1 by (first | ((try clear hne9); (try clear hj35_0); (try clear hj67_0); (try clear hj93_0); (try clear ho9); (try clear htu); show_term (have zq223 : True := trivial; omega)) | show_term (have zq223 : True := trivial; omega)), show (j + ri).toNat = j.toNat + rI la by (first | ((try clear hne9); (try clear hj35_0); (try clear hj67_0); (try clear hj93_0); (try clear ho9); (try clear htu); show_term (have zq224 : True := trivial; omega)) | show_term (have zq224 : True := trivial; omega)), sS, rdrop_add]
                    rw [show (0 : Int).toNat = 0 from rfl, wk_01]
                    exact hN) (by (first | ((try clear hne9); (try clear hj35_0); (try clear hj67_0); (try clear hj93_0); (try clear ho9); (try clear htu); show_term (have zq225 : True := trivial; omega)) | show_term (have zq225 : True := trivial; omega))) (by (first | ((try clear hne9); (try clear hj35_0); (try clear hj67_0); (try clear hj93_0); (try clear ho9); (try clear htu); show_term (have zq226 : True := trivial; omega)) | show_term (have zq226 : True := trivial; omega))) (by first | exact Or.inl rfl | exact Or.inr (Or.inl rfl) | exact Or.inr (Or.inr rfl)) (by
                    rw [show (i + 1).toNat = i.toNat + 1 by (first | ((try clear hne9); (try clear hj35_0); (try clear hj67_0); (try clear hj93_0); (try clear ho9); (try clear htu); show_term (have zq227 : True := trivial; omega)) | show_term (have zq227 : True := trivial; omega)), show (j + ri).toNat = j.toNat + rI la by (first | ((try clear hne9); (try clear hj35_0); (try clear hj67_0); (try clear hj93_0); (try clear ho9); (try clear htu); show_term (have zq228 : True := trivial; omega)) | show_term (have zq228 : True := trivial; omega)), sS, rdrop_add]
                    obtain ⟨a1_, a2_, a3_, a4_, a5_⟩ := al_is (Or.inl rfl) hmn
                    refine alI_and1 hz11 ez11 hal ((a2_ hy9).trans ?_)
                    show ((ks == 3) && (lay ra (rdrop (rI la) (rdrop j.toNat wP))).2) = _
                    rw [beq_iff_eq.mpr (by (first | ((try clear hne9); (try clear hj35_0); (try clear hj67_0); (try clear hj93_0); (try clear ho9); (try clear htu); show_term (have zq229 : True := trivial; omega)) | show_term (have zq229 : True := trivial; omega))), Bool.true_and]) (by (first | ((try clear hne9); (try clear hj35_0); (try clear hj67_0); (try clear hj93_0); (try clear ho9); (try clear htu); show_term (have zq230 : True := trivial; omega)) | show_term (have zq230 : True := trivial; omega))) hP hS (lv_sub hl [2, 10, 3, 0, 1, 11, 12, 13] rfl)
  · clear ho9
    refine lv_iload hx hb dX10_walks_111 (lv_at hl 4 rfl) ?_
    refine lv_iconst (v := iZ 5) hx hb dX10_walks_113 rfl ?_
    refine fz_icmp_eq (tgt := 137) (by decide) (by decide) hx hb dX10_walks_114 (by decide) (fun h9 => absurd h9 (by decide)) (fun c114_ => ?_)
    refine lv_iload hx hb dX10_walks_117 (lv_at hl 4 rfl) ?_
    refine lv_iconst (v := iZ 4) hx hb dX10_walks_119 rfl ?_
    refine fz_icmp_ne (tgt := 141) (by decide) (by decide) hx hb dX10_walks_120 (by decide) (fun c120_ => ?_) (fun h9 => absurd h9 (by decide))
    refine lv_iconst (v := iZ 0) hx hb dX10_walks_141 rfl ?_
    refine lv_istore (lv' := [(13, .int (iZ (0))), (12, .int (iZ (u1))), (11, .int (iZ (t))), (10, .int (iZ (x93_0))), (9, .int (iZ (x67_0))), (8, .int (iZ (2))), (7, .int (iZ (al))), (6, .int (iZ (y))), (5, .int (iZ (5))), (4, .int (iZ (j))), (3, .int (iZ (i))), (2, .int (iZ (o1))), (1, .int (iZ (n))), (0, .ref h0)]) hx hb dX10_walks_142 hl (by decide) rfl (fun ls hl => ?_)
    refine lv_iload hx hb dX10_walks_144 (lv_at hl 8 rfl) ?_
    refine fz_if_le (tgt := 171) (by decide) hx hb dX10_walks_146 (by decide) (fun h9 => absurd h9 (by decide)) (fun c146_ => ?_)
    refine lv_iload hx hb dX10_walks_149 (lv_at hl 0 rfl) ?_
    refine fz_if_eq (tgt := 161) (by decide) hx hb dX10_walks_151 (by decide) (fun c151_ => ?_) (fun h9 => absurd h9 (by decide))
    refine lv_aload_n hx hb dX10_walks_161 rfl (lv_at hl 13 rfl) ?_
    refine lv_iload_n hx hb dX10_walks_162 rfl (lv_at hl 11 rfl) ?_
    refine lv_iload hx hb dX10_walks_163 (lv_at hl 7 rfl) ?_
    refine va_callv (va_runV (As := [.int (iZ (o1)), .int (iZ (y))]) (rest := []) ⟨hx, hb, hml, hown, hts⟩ (m_closes l dC dI cI cZ cII cIII h0 H.size μ (o1) (y) (by first | assumption | ((try clear hne9); (try clear hj35_0); (try clear hj67_0); (try clear hj93_0); (try clear ho9); (try clear htu); show_term (have zq231 : True := trivial; omega)) | show_term (have zq231 : True := trivial; omega) | exact ⟨by (first | ((try clear hne9); (try clear hj35_0); (try clear hj67_0); (try clear hj93_0); (try clear ho9); (try clear htu); show_term (have zq232 : True := trivial; omega)) | show_term (have zq232 : True := trivial; omega)), by (first | ((try clear hne9); (try clear hj35_0); (try clear hj67_0); (try clear hj93_0); (try clear ho9); (try clear htu); show_term (have zq233 : True := trivial; omega)) | show_term (have zq233 : True := trivial; omega))⟩) (by intro h; exact (wSt_cap hwc hcap h).2.2 (by (first | ((try clear hne9); (try clear hj35_0); (try clear hj67_0); (try clear hj93_0); (try clear ho9); (try clear htu); show_term (have zq234 : True := trivial; omega)) | show_term (have zq234 : True := trivial; omega))))) (cwV 2 hts (gV_G k1420 k1422 ks_yX10_closes k13 k1423) rfl rfl rfl (by decide +kernel) ⟨by show 1 + 1 ≤ _; show_term (have zq235 : True := trivial; omega), by show 8 + (3 + 11) + (14) ≤ _; show_term (have zq236 : True := trivial; omega)⟩) ⟨fun a U g mk q => by obtain ⟨q0, q1, qP, qK⟩ := q; exact ⟨q0, q1, qP, va_K.moved (u := U) (U := U.calling g mk a) (Vm.Alike.refl U.vm) qK⟩, va_recv hK hP (ci := 10) (q0 := 0) rfl ((fw_get (by decide)).trans (by rw [mE_obj]; rfl)), fun U hU hW => ⟨rfl, by rw [hU], by rw [hU]; exact hP, va_K.moved hW.alike hK⟩⟩ rfl rfl hl.1 rfl (lv_room (Nat.le_of_ble_eq_true rfl)) dX10_walks_165 ⟨hRc, hRs⟩) hS (fun q _ h => fA_le hS.1 q h) (fA_le hS.1) (fun u9 t9 H1 locs ht9 hvm9 hw9 hB9 hz9 hk9 hS => ?_)
    obtain ⟨hP, -⟩ := hB9
    rw [ht9] at hP
    generalize H1 = H at hP hS ⊢
    obtain ⟨μd, eμd⟩ : ∃ x : va_M, x = u9 := ⟨_, rfl⟩
    rw [← eμd] at hP hw9
    have hμd := hw9; clear hw9
    have hC := wSt_close hwc (by (first | ((try clear hne9); (try clear hj35_0); (try clear hj67_0); (try clear hj93_0); (try clear ho9); (try clear htu); show_term (have zq237 : True := trivial; omega)) | show_term (have zq237 : True := trivial; omega))) (by (first | ((try clear hne9); (try clear hj35_0); (try clear hj67_0); (try clear hj93_0); (try clear ho9); (try clear htu); show_term (have zq238 : True := trivial; omega)) | show_term (have zq238 : True := trivial; omega))) hμd y
    refine lv_iconst (v := iZ 0) hx hb dX10_walks_168 rfl ?_
    refine lv_istore (lv' := [(5, .int (iZ (0))), (13, .int (iZ (0))), (12, .int (iZ (u1))), (11, .int (iZ (t))), (10, .int (iZ (x93_0))), (9, .int (iZ (x67_0))), (8, .int (iZ (2))), (7, .int (iZ (al))), (6, .int (iZ (y))), (4, .int (iZ (j))), (3, .int (iZ (i))), (2, .int (iZ (o1))), (1, .int (iZ (n))), (0, .ref h0)]) hx hb dX10_walks_169 hl (by decide) rfl (fun ls hl => ?_)
    have hLx := lvS_wSt hL hC (by (first | ((try clear hne9); (try clear hj35_0); (try clear hj67_0); (try clear hj93_0); (try clear ho9); (try clear htu); show_term (have zq239 : True := trivial; omega)) | show_term (have zq239 : True := trivial; omega))) ht hu ho
    have sIA : IA μd t.toNat x67_0.toNat ks vs la := by rw [hx_s]; exact IA_S hLx (by (first | ((try clear hne9); (try clear hj35_0); (try clear hj67_0); (try clear hj93_0); (try clear ho9); (try clear htu); show_term (have zq240 : True := trivial; omega)) | show_term (have zq240 : True := trivial; omega))) hes
    refine lv_iload hx hb dX10_walks_171 (lv_at hl 1 rfl) ?_
    refine fz_if_eq (tgt := 194) (by decide) hx hb dX10_walks_173 (by decide) (fun c173_ => ?_) (fun h9 => absurd h9 (by decide))
    refine lv_iload hx hb dX10_walks_194 (lv_at hl 6 rfl) ?_
    refine lv_iconst (v := iZ 1) hx hb dX10_walks_196 rfl ?_
    refine fz_icmp_ne (tgt := 211) (by decide) (by decide) hx hb dX10_walks_197 (by decide) (fun c197_ => ?_) (fun h9 => absurd h9 (by decide))
    refine lv_iload hx hb dX10_walks_211 (lv_at hl 6 rfl) ?_
    refine lv_iconst (v := iZ 2) hx hb dX10_walks_213 rfl ?_
    refine fz_icmp_ne (tgt := 237) (by decide) (by decide) hx hb dX10_walks_214 (by decide) (fun h9 => absurd h9 (by decide)) (fun c214_ => ?_)
    refine lv_aload_n hx hb dX10_walks_217 rfl (lv_at hl 13 rfl) ?_
    refine lv_iload hx hb dX10_walks_218 (lv_at hl 3 rfl) ?_
    refine lv_iload hx hb dX10_walks_220 (lv_at hl 5 rfl) ?_
    refine lv_iload hx hb dX10_walks_222 (lv_at hl 2 rfl) ?_
    refine lv_aload_n hx hb dX10_walks_224 rfl (lv_at hl 13 rfl) ?_
    refine fz_get (D := (dC, dI)) (ci := 10) (v := .ref (h0 + 737)) (C := RX10) (T := TX10) (N := 53) hx hb hts inG10 hown hK hP (k := 0) (by decide) (F := mF h0) mE_obj rfl 30 (by decide) (hts _ k1196) (fun _ h9 => h9) rfl dX10_walks_225 ?_
    refine lv_iload_n hx hb dX10_walks_228 rfl (lv_at hl 12 rfl) ?_
    refine fz_ald (k := 737) (n := 14) (k2 := (738 + (n).toNat)) hx hb hK hP 2 rfl (by decide) mE_rowP rfl ⟨by (first | ((try clear hne9); (try clear hj35_0); (try clear hj67_0); (try clear hj93_0); (try clear ho9); (try clear htu); show_term (have zq241 : True := trivial; omega)) | show_term (have zq241 : True := trivial; omega)), by (first | ((try clear hne9); (try clear hj35_0); (try clear hj67_0); (try clear hj93_0); (try clear ho9); (try clear htu); show_term (have zq242 : True := trivial; omega)) | show_term (have zq242 : True := trivial; omega))⟩ (by decide) (if_pos (by (first | ((try clear hne9); (try clear hj35_0); (try clear hj67_0); (try clear hj93_0); (try clear ho9); (try clear htu); show_term (have zq243 : True := trivial; omega)) | show_term (have zq243 : True := trivial; omega)))) dX10_walks_229 ?_
    refine lv_iload hx hb dX10_walks_230 (lv_at hl 9 rfl) ?_
    refine lv_iload_n hx hb dX10_walks_232 rfl (lv_at hl 11 rfl) ?_
    refine va_calli (va_runV (As := [.int (iZ (t)), .int (iZ (x67_0)), .int (iZ (u1)), .ref (h0 + (738 + (n).toNat)), .int (iZ (j)), .int (iZ (o1))]) (rest := []) ⟨hx, hb, hml, hown, hts⟩ (m_fusesRow l dC dI cI cZ cII cIII h0 H.size μd (t) (x67_0) (u1) ((738 + n.toNat)) (j) (o1) (ks) (vs) (la) (wP) (pq) (by first | assumption | ((try clear hne9); (try clear hj35_0); (try clear hj67_0); (try clear hj93_0); (try clear ho9); (try clear htu); show_term (have zq244 : True := trivial; omega)) | show_term (have zq244 : True := trivial; omega) | exact ⟨by (first | ((try clear hne9); (try clear hj35_0); (try clear hj67_0); (try clear hj93_0); (try clear ho9); (try clear htu); show_term (have zq245 : True := trivial; omega)) | show_term (have zq245 : True := trivial; omega)), by (first | ((try clear hne9); (try clear hj35_0); (try clear hj67_0); (try clear hj93_0); (try clear ho9); (try clear htu); show_term (have zq246 : True := trivial; omega)) | show_term (have zq246 : True := trivial; omega))⟩) (by first | assumption | ((try clear hne9); (try clear hj35_0); (try clear hj67_0); (try clear hj93_0); (try clear ho9); (try clear htu); show_term (have zq247 : True := trivial; omega)) | show_term (have zq247 : True := trivial; omega) | exact ⟨by (first | ((try clear hne9); (try clear hj35_0); (try clear hj67_0); (try clear hj93_0); (try clear ho9); (try clear htu); show_term (have zq248 : True := trivial; omega)) | show_term (have zq248 : True := trivial; omega)), by (first | ((try clear hne9); (try clear hj35_0); (try clear hj67_0); (try clear hj93_0); (try clear ho9); (try clear htu); show_term (have zq249 : True := trivial; omega)) | show_term (have zq249 : True := trivial; omega))⟩) (by (first | ((try clear hne9); (try clear hj35_0); (try clear hj67_0); (try clear hj93_0); (try clear ho9); (try clear htu); show_term (have zq250 : True := trivial; omega)) | show_term (have zq250 : True := trivial; omega))) (by exact sIA) (by exact sF) (by exact Or.inr ⟨by (first | ((try clear hne9); (try clear hj35_0); (try clear hj67_0); (try clear hj93_0); (try clear ho9); (try clear htu); show_term (have zq251 : True := trivial; omega)) | show_term (have zq251 : True := trivial; omega)), by (first | ((try clear hne9); (try clear hj35_0); (try clear hj67_0); (try clear hj93_0); (try clear ho9); (try clear htu); show_term (have zq252 : True := trivial; omega)) | show_term (have zq252 : True := trivial; omega))⟩) (by exact hLx.2.2.2.2.2.1) (by exact hLx.2.2.2.2.2.2.2) (by exact hpq) (by exact hwP) (by (first | ((try clear hne9); (try clear hj35_0); (try clear hj67_0); (try clear hj93_0); (try clear ho9); (try clear htu); show_term (have zq253 : True := trivial; omega)) | show_term (have zq253 : True := trivial; omega))) (by exact hj) (by (first | ((try clear hne9); (try clear hj35_0); (try clear hj67_0); (try clear hj93_0); (try clear ho9); (try clear htu); show_term (have zq254 : True := trivial; omega)) | show_term (have zq254 : True := trivial; omega))) (by (first | ((try clear hne9); (try clear hj35_0); (try clear hj67_0); (try clear hj93_0); (try clear ho9); (try clear htu); show_term (have zq255 : True := trivial; omega)) | show_term (have zq255 : True := trivial; omega))) (by exact hnx) (by intro h; have h9 := wSt_cap hC hcap h; rw [rN_in, hnN] at h9; show_term (have zq256 : True := trivial; omega))) (cwV 6 hts (gV_G k1468 k1470 ks_yX10_fusesRow k13 k1471) rfl rfl rfl (by decide +kernel) ⟨by show 24 + 1 ≤ _; show_term (have zq257 : True := trivial; omega), by show 8 + (11 + 11) + (740) ≤ _; show_term (have zq258 : True := trivial; omega)⟩) ⟨fun a U g mk q => by obtain ⟨q0, q1, qP, qK⟩ := q; exact ⟨q0, q1, qP, va_K.moved (u := U) (U := U.calling g mk a) (Vm.Alike.refl U.vm) qK⟩, va_recv hK hP (ci := 10) (q0 := 0) rfl ((fw_get (by decide)).trans (by rw [mE_obj]; rfl)), fun U hU hW => ⟨rfl, by rw [hU], by rw [hU]; exact hP, va_K.moved hW.alike hK⟩⟩ rfl rfl hl.1 rfl (lv_room (Nat.le_of_ble_eq_true rfl)) dX10_walks_233 ⟨hRc, hRs⟩) hS (fun q _ h => fA_le hS.1 q h) (fA_le hS.1) (fun r9 u9 t9 H1 locs ht9 hvm9 hw9 hB9 hz9 hk9 hS => ?_)
    obtain ⟨μr, rr9⟩ := u9
    obtain ⟨hP, -⟩ := hB9
    rw [ht9] at hP
    generalize H1 = H at hP hS ⊢
    obtain ⟨e9, hw9⟩ := hw9
    have e9 : r9 = iZ rr9 := e9
    subst e9
    simp only at hP hw9
    have hμr := hw9; clear hw9
    have hN := wSt_it0 hC (by (first | ((try clear hne9); (try clear hj35_0); (try clear hj67_0); (try clear hj93_0); (try clear ho9); (try clear htu); show_term (have zq259 : True := trivial; omega)) | show_term (have zq259 : True := trivial; omega))) (layO_fu hμr hnN) y
    have hLn := lvS_wSt hL hN (by (first | ((try clear hne9); (try clear hj35_0); (try clear hj67_0); (try clear hj93_0); (try clear ho9); (try clear htu); show_term (have zq260 : True := trivial; omega)) | show_term (have zq260 : True := trivial; omega))) ht hu ho
    have sIn : IA μr t.toNat x67_0.toNat ks vs la := by rw [hx_s]; exact IA_S hLn (by (first | ((try clear hne9); (try clear hj35_0); (try clear hj67_0); (try clear hj93_0); (try clear ho9); (try clear htu); show_term (have zq261 : True := trivial; omega)) | show_term (have zq261 : True := trivial; omega))) hes
    refine lv_pop hx hb dX10_walks_236 rfl ?_
    refine lv_iload hx hb dX10_walks_237 (lv_at hl 6 rfl) ?_
    refine lv_iconst (v := iZ 3) hx hb dX10_walks_239 rfl ?_
    refine fz_icmp_ne (tgt := 262) (by decide) (by decide) hx hb dX10_walks_240 (by decide) (fun c240_ => ?_) (fun h9 => absurd h9 (by decide))
    refine lv_iload hx hb dX10_walks_262 (lv_at hl 6 rfl) ?_
    refine lv_iconst (v := iZ 4) hx hb dX10_walks_264 rfl ?_
    refine fz_icmp_ne (tgt := 277) (by decide) (by decide) hx hb dX10_walks_265 (by decide) (fun c265_ => ?_) (fun h9 => absurd h9 (by decide))
    refine lv_iload hx hb dX10_walks_277 (lv_at hl 6 rfl) ?_
    refine lv_iconst (v := iZ 5) hx hb dX10_walks_279 rfl ?_
    refine fz_icmp_ne (tgt := 292) (by decide) (by decide) hx hb dX10_walks_280 (by decide) (fun c280_ => ?_) (fun h9 => absurd h9 (by decide))
    refine lv_iload hx hb dX10_walks_292 (lv_at hl 7 rfl) ?_
    refine lv_iload hx hb dX10_walks_294 (lv_at hl 6 rfl) ?_
    refine lv_iconst (v := iZ 3) hx hb dX10_walks_296 rfl ?_
    refine fz_icmp_gt (tgt := 320) (by decide) (by decide) hx hb dX10_walks_297 (by decide) (fun h9 => absurd h9 (by decide)) (fun c297_ => ?_)
    refine lv_iload hx hb dX10_walks_300 (lv_at hl 6 rfl) ?_
    refine lv_iconst (v := iZ 2) hx hb dX10_walks_302 rfl ?_
    refine fz_icmp_ne (tgt := 324) (by decide) (by decide) hx hb dX10_walks_303 (by decide) (fun h9 => absurd h9 (by decide)) (fun c303_ => ?_)
    refine lv_aload_n hx hb dX10_walks_306 rfl (lv_at hl 13 rfl) ?_
    refine fz_get (D := (dC, dI)) (ci := 10) (v := .ref (h0 + 506)) (C := RX10) (T := TX10) (N := 53) hx hb hts inG10 hown hK hP (k := 0) (by decide) (F := mF h0) mE_obj rfl 18 (by decide) (hts _ k1184) (fun _ h9 => h9) rfl dX10_walks_307 ?_
    refine lv_iload hx hb dX10_walks_310 (lv_at hl 3 rfl) ?_
    refine fz_ald (k := 506) (n := 70) (k2 := (507 + (t).toNat)) hx hb hK hP 2 rfl (by decide) mE_sort rfl ⟨by (first | ((try clear hne9); (try clear hj35_0); (try clear hj67_0); (try clear hj93_0); (try clear ho9); (try clear htu); show_term (have zq262 : True := trivial; omega)) | show_term (have zq262 : True := trivial; omega)), by (first | ((try clear hne9); (try clear hj35_0); (try clear hj67_0); (try clear hj93_0); (try clear ho9); (try clear htu); show_term (have zq263 : True := trivial; omega)) | show_term (have zq263 : True := trivial; omega))⟩ (by decide) (if_pos (by (first | ((try clear hne9); (try clear hj35_0); (try clear hj67_0); (try clear hj93_0); (try clear ho9); (try clear htu); show_term (have zq264 : True := trivial; omega)) | show_term (have zq264 : True := trivial; omega)))) dX10_walks_312 ?_
    refine lv_iload hx hb dX10_walks_313 (lv_at hl 5 rfl) ?_
    refine fz_ld (k := (507 + (t).toNat)) (n := 900) hx hb hK hP 0 (by (first | ((try clear hne9); (try clear hj35_0); (try clear hj67_0); (try clear hj93_0); (try clear ho9); (try clear htu); show_term (have zq265 : True := trivial; omega)) | show_term (have zq265 : True := trivial; omega))) (mE_sortR (by (first | ((try clear hne9); (try clear hj35_0); (try clear hj67_0); (try clear hj93_0); (try clear ho9); (try clear htu); show_term (have zq266 : True := trivial; omega)) | show_term (have zq266 : True := trivial; omega)))) rfl ⟨by (first | ((try clear hne9); (try clear hj35_0); (try clear hj67_0); (try clear hj93_0); (try clear ho9); (try clear htu); show_term (have zq267 : True := trivial; omega)) | show_term (have zq267 : True := trivial; omega)), by (first | ((try clear hne9); (try clear hj35_0); (try clear hj67_0); (try clear hj93_0); (try clear ho9); (try clear htu); show_term (have zq268 : True := trivial; omega)) | show_term (have zq268 : True := trivial; omega))⟩ (by decide) dX10_walks_315 ?_
    rw [show μr (507 + (t).toNat) (x67_0).toNat = (ks : Int) from (by exact sIn.1)]
    refine lv_iconst (v := iZ 3) hx hb dX10_walks_316 rfl ?_
    refine fz_icmp_ne (tgt := 324) (by constructor <;> (first | ((try clear hne9); (try clear hj35_0); (try clear hj67_0); (try clear hj93_0); (try clear ho9); (try clear htu); show_term (have zq269 : True := trivial; omega)) | show_term (have zq269 : True := trivial; omega))) (by decide) hx hb dX10_walks_317 (by decide) (fun c317_ => ?_) (fun c317_ => ?_)
    · refine lv_iconst (v := iZ 0) hx hb dX10_walks_324 rfl ?_
      refine lv_iand hx hb dX10_walks_325 ?_
      refine lv_topi (fun x9 ex9 => ?_)
      obtain ⟨z13, rfl, hz13⟩ := iZ_ex x9
      have ez13 := ex9; clear ex9
      refine lv_istore (lv' := [(7, .int (iZ (z13))), (5, .int (iZ (0))), (13, .int (iZ (0))), (12, .int (iZ (u1))), (11, .int (iZ (t))), (10, .int (iZ (x93_0))), (9, .int (iZ (x67_0))), (8, .int (iZ (2))), (6, .int (iZ (y))), (4, .int (iZ (j))), (3, .int (iZ (i))), (2, .int (iZ (o1))), (1, .int (iZ (n))), (0, .ref h0)]) hx hb dX10_walks_326 hl (by decide) rfl (fun ls hl => ?_)
      refine lv_iload_n hx hb dX10_walks_328 rfl (lv_at hl 10 rfl) ?_
      refine lv_iload hx hb dX10_walks_329 (lv_at hl 7 rfl) ?_
      refine lv_iconst (v := iZ 3) hx hb dX10_walks_331 rfl ?_
      refine fz_icmp_ne (tgt := 346) (by decide) (by decide) hx hb dX10_walks_332 (by decide) (fun c332_ => ?_) (fun h9 => absurd h9 (by decide))
      refine lv_iload hx hb dX10_walks_346 (lv_at hl 7 rfl) ?_
      refine lv_iconst (v := iZ 5) hx hb dX10_walks_348 rfl ?_
      refine fz_icmp_ne (tgt := 356) (by decide) (by decide) hx hb dX10_walks_349 (by decide) (fun c349_ => ?_) (fun h9 => absurd h9 (by decide))
      refine lv_iconst (v := iZ 1) hx hb dX10_walks_356 rfl ?_
      refine lv_iadd hx hb dX10_walks_357 ?_
      refine lv_topi (fun x9 ex9 => ?_)
      obtain rfl : x9 = iZ (i + 1) := ex9.trans (iZ_add _ _)
      refine lv_istore_n (lv' := [(3, .int (iZ (i + 1))), (7, .int (iZ (z13))), (5, .int (iZ (0))), (13, .int (iZ (0))), (12, .int (iZ (u1))), (11, .int (iZ (t))), (10, .int (iZ (x93_0))), (9, .int (iZ (x67_0))), (8, .int (iZ (2))), (6, .int (iZ (y))), (4, .int (iZ (j))), (2, .int (iZ (o1))), (1, .int (iZ (n))), (0, .ref h0)]) hx hb dX10_walks_358 rfl hl (by decide) rfl (fun ls hl => ?_)
      refine lv_iload hx hb dX10_walks_359 (lv_at hl 10 rfl) ?_
      refine lv_iload hx hb dX10_walks_361 (lv_at hl 8 rfl) ?_
      refine lv_iconst (v := iZ 2) hx hb dX10_walks_363 rfl ?_
      refine fz_icmp_ne (tgt := 378) (by decide) (by decide) hx hb dX10_walks_364 (by decide) (fun h9 => absurd h9 (by decide)) (fun c364_ => ?_)
      refine lv_aload_n hx hb dX10_walks_367 rfl (lv_at hl 13 rfl) ?_
      refine lv_iload hx hb dX10_walks_368 (lv_at hl 5 rfl) ?_
      refine lv_iload hx hb dX10_walks_370 (lv_at hl 7 rfl) ?_
      refine va_calli (va_runV (As := [.int (iZ (t)), .int (iZ (x67_0))]) (rest := [.int (iZ (j))]) ⟨hx, hb, hml, hown, hts⟩ (m_itemsIn l dC dI cI cZ cII cIII h0 H.size μr (t) (x67_0) (la) (by first | assumption | ((try clear hne9); (try clear hj35_0); (try clear hj67_0); (try clear hj93_0); (try clear ho9); (try clear htu); show_term (have zq270 : True := trivial; omega)) | show_term (have zq270 : True := trivial; omega) | exact ⟨by (first | ((try clear hne9); (try clear hj35_0); (try clear hj67_0); (try clear hj93_0); (try clear ho9); (try clear htu); show_term (have zq271 : True := trivial; omega)) | show_term (have zq271 : True := trivial; omega)), by (first | ((try clear hne9); (try clear hj35_0); (try clear hj67_0); (try clear hj93_0); (try clear ho9); (try clear htu); show_term (have zq272 : True := trivial; omega)) | show_term (have zq272 : True := trivial; omega))⟩) (by (first | ((try clear hne9); (try clear hj35_0); (try clear hj67_0); (try clear hj93_0); (try clear ho9); (try clear htu); show_term (have zq273 : True := trivial; omega)) | show_term (have zq273 : True := trivial; omega))) (by exact sIn.2.2.1) (by exact sIn.2.2.2)) (cwV 2 hts (gV_G k1400 k1402 ks_yX10_itemsIn k13 k1403) rfl rfl rfl (by decide +kernel) ⟨by show 1 + 1 ≤ _; show_term (have zq274 : True := trivial; omega), by show 8 + (5 + 11) + (14) ≤ _; show_term (have zq275 : True := trivial; omega)⟩) ⟨fun a U g mk q => by obtain ⟨q0, q1, qP, qK⟩ := q; exact ⟨q0, q1, qP, va_K.moved (u := U) (U := U.calling g mk a) (Vm.Alike.refl U.vm) qK⟩, va_recv hK hP (ci := 10) (q0 := 0) rfl ((fw_get (by decide)).trans (by rw [mE_obj]; rfl)), fun U hU hW => ⟨rfl, by rw [hU], by rw [hU]; exact hP, va_K.moved hW.alike hK⟩⟩ rfl rfl hl.1 rfl (lv_room (Nat.le_of_ble_eq_true rfl)) dX10_walks_372 ⟨hRc, hRs⟩) hS (fun q _ h => fA_le hS.1 q h) (fA_le hS.1) (fun r9 u9 t9 H1 locs ht9 hvm9 hw9 hB9 hz9 hk9 hS => ?_)
      obtain ⟨μ14, ri⟩ := u9
      obtain ⟨hP, -⟩ := hB9
      rw [ht9] at hP
      generalize H1 = H at hP hS ⊢
      obtain ⟨e9, hw9⟩ := hw9
      have e9 : r9 = iZ ri := e9
      subst e9
      simp only at hP hw9
      have hμ14 := hw9; clear hw9
      rw [hμ14.1] at hP; have hμ14 := hμ14.2
      have hri : ri = rI la := hμ14
      refine lv_goto (tgt := 389) hx hb dX10_walks_375 (by decide) ?_
      refine lv_iadd hx hb dX10_walks_389 ?_
      refine lv_topi (fun x9 ex9 => ?_)
      obtain rfl : x9 = iZ (j + ri) := ex9.trans (iZ_add _ _)
      refine lv_istore (lv' := [(4, .int (iZ (j + ri))), (3, .int (iZ (i + 1))), (7, .int (iZ (z13))), (5, .int (iZ (0))), (13, .int (iZ (0))), (12, .int (iZ (u1))), (11, .int (iZ (t))), (10, .int (iZ (x93_0))), (9, .int (iZ (x67_0))), (8, .int (iZ (2))), (6, .int (iZ (y))), (2, .int (iZ (o1))), (1, .int (iZ (n))), (0, .ref h0)]) hx hb dX10_walks_390 hl (by decide) rfl (fun ls hl => ?_)
      refine lv_goto (tgt := 14) hx hb dX10_walks_392 (by decide) ?_
      exact ih (i + 1) (j + ri) (0) (y) (z13) μr H locs ls (by
                    rw [show (i + 1).toNat = i.toNat + 1 by (first | ((try clear hne9); (try clear hj35_0); (try clear hj67_0); (try clear hj93_0); (try clear ho9); (try clear htu); show_term (have zq276 : True := trivial; omega)) | show_term (have zq276 : True := trivial; omega)), show (j + ri).toNat = j.toNat + rI la by (first | ((try clear hne9); (try clear hj35_0); (try clear hj67_0); (try clear hj93_0); (try clear ho9); (try clear htu); show_term (have zq277 : True := trivial; omega)) | show_term (have zq277 : True := trivial; omega)), sS, rdrop_add]
                    rw [show (0 : Int).toNat = 0 from rfl, wk_01]
                    exact hN) (by (first | ((try clear hne9); (try clear hj35_0); (try clear hj67_0); (try clear hj93_0); (try clear ho9); (try clear htu); show_term (have zq278 : True := trivial; omega)) | show_term (have zq278 : True := trivial; omega))) (by (first | ((try clear hne9); (try clear hj35_0); (try clear hj67_0); (try clear hj93_0); (try clear ho9); (try clear htu); show_term (have zq279 : True := trivial; omega)) | show_term (have zq279 : True := trivial; omega))) (by first | exact Or.inl rfl | exact Or.inr (Or.inl rfl) | exact Or.inr (Or.inr rfl)) (by
                    rw [show (i + 1).toNat = i.toNat + 1 by (first | ((try clear hne9); (try clear hj35_0); (try clear hj67_0); (try clear hj93_0); (try clear ho9); (try clear htu); show_term (have zq280 : True := trivial; omega)) | show_term (have zq280 : True := trivial; omega)), show (j + ri).toNat = j.toNat + rI la by (first | ((try clear hne9); (try clear hj35_0); (try clear hj67_0); (try clear hj93_0); (try clear ho9); (try clear htu); show_term (have zq281 : True := trivial; omega)) | show_term (have zq281 : True := trivial; omega)), sS, rdrop_add]
                    obtain ⟨a1_, a2_, a3_, a4_, a5_⟩ := al_is (Or.inl rfl) hmn
                    refine alI_and0 hz13 ez13 hal ((a2_ hy9).trans ?_)
                    show ((ks == 3) && (lay ra (rdrop (rI la) (rdrop j.toNat wP))).2) = _
                    rw [beq_eq_false_iff_ne.mpr (by (first | ((try clear hne9); (try clear hj35_0); (try clear hj67_0); (try clear hj93_0); (try clear ho9); (try clear htu); show_term (have zq282 : True := trivial; omega)) | show_term (have zq282 : True := trivial; omega))), Bool.false_and]) (by (first | ((try clear hne9); (try clear hj35_0); (try clear hj67_0); (try clear hj93_0); (try clear ho9); (try clear htu); show_term (have zq283 : True := trivial; omega)) | show_term (have zq283 : True := trivial; omega))) hP hS (lv_sub hl [2, 10, 3, 0, 1, 11, 12, 13] rfl)
    · refine lv_iconst (v := iZ 1) hx hb dX10_walks_320 rfl ?_
      refine lv_goto (tgt := 325) hx hb dX10_walks_321 (by decide) ?_
      refine lv_iand hx hb dX10_walks_325 ?_
      refine lv_topi (fun x9 ex9 => ?_)
      obtain ⟨z15, rfl, hz15⟩ := iZ_ex x9
      have ez15 := ex9; clear ex9
      refine lv_istore (lv' := [(7, .int (iZ (z15))), (5, .int (iZ (0))), (13, .int (iZ (0))), (12, .int (iZ (u1))), (11, .int (iZ (t))), (10, .int (iZ (x93_0))), (9, .int (iZ (x67_0))), (8, .int (iZ (2))), (6, .int (iZ (y))), (4, .int (iZ (j))), (3, .int (iZ (i))), (2, .int (iZ (o1))), (1, .int (iZ (n))), (0, .ref h0)]) hx hb dX10_walks_326 hl (by decide) rfl (fun ls hl => ?_)
      refine lv_iload_n hx hb dX10_walks_328 rfl (lv_at hl 10 rfl) ?_
      refine lv_iload hx hb dX10_walks_329 (lv_at hl 7 rfl) ?_
      refine lv_iconst (v := iZ 3) hx hb dX10_walks_331 rfl ?_
      refine fz_icmp_ne (tgt := 346) (by decide) (by decide) hx hb dX10_walks_332 (by decide) (fun c332_ => ?_) (fun h9 => absurd h9 (by decide))
      refine lv_iload hx hb dX10_walks_346 (lv_at hl 7 rfl) ?_
      refine lv_iconst (v := iZ 5) hx hb dX10_walks_348 rfl ?_
      refine fz_icmp_ne (tgt := 356) (by decide) (by decide) hx hb dX10_walks_349 (by decide) (fun c349_ => ?_) (fun h9 => absurd h9 (by decide))
      refine lv_iconst (v := iZ 1) hx hb dX10_walks_356 rfl ?_
      refine lv_iadd hx hb dX10_walks_357 ?_
      refine lv_topi (fun x9 ex9 => ?_)
      obtain rfl : x9 = iZ (i + 1) := ex9.trans (iZ_add _ _)
      refine lv_istore_n (lv' := [(3, .int (iZ (i + 1))), (7, .int (iZ (z15))), (5, .int (iZ (0))), (13, .int (iZ (0))), (12, .int (iZ (u1))), (11, .int (iZ (t))), (10, .int (iZ (x93_0))), (9, .int (iZ (x67_0))), (8, .int (iZ (2))), (6, .int (iZ (y))), (4, .int (iZ (j))), (2, .int (iZ (o1))), (1, .int (iZ (n))), (0, .ref h0)]) hx hb dX10_walks_358 rfl hl (by decide) rfl (fun ls hl => ?_)
      refine lv_iload hx hb dX10_walks_359 (lv_at hl 10 rfl) ?_
      refine lv_iload hx hb dX10_walks_361 (lv_at hl 8 rfl) ?_
      refine lv_iconst (v := iZ 2) hx hb dX10_walks_363 rfl ?_
      refine fz_icmp_ne (tgt := 378) (by decide) (by decide) hx hb dX10_walks_364 (by decide) (fun h9 => absurd h9 (by decide)) (fun c364_ => ?_)
      refine lv_aload_n hx hb dX10_walks_367 rfl (lv_at hl 13 rfl) ?_
      refine lv_iload hx hb dX10_walks_368 (lv_at hl 5 rfl) ?_
      refine lv_iload hx hb dX10_walks_370 (lv_at hl 7 rfl) ?_
      refine va_calli (va_runV (As := [.int (iZ (t)), .int (iZ (x67_0))]) (rest := [.int (iZ (j))]) ⟨hx, hb, hml, hown, hts⟩ (m_itemsIn l dC dI cI cZ cII cIII h0 H.size μr (t) (x67_0) (la) (by first | assumption | ((try clear hne9); (try clear hj35_0); (try clear hj67_0); (try clear hj93_0); (try clear ho9); (try clear htu); show_term (have zq284 : True := trivial; omega)) | show_term (have zq284 : True := trivial; omega) | exact ⟨by (first | ((try clear hne9); (try clear hj35_0); (try clear hj67_0); (try clear hj93_0); (try clear ho9); (try clear htu); show_term (have zq285 : True := trivial; omega)) | show_term (have zq285 : True := trivial; omega)), by (first | ((try clear hne9); (try clear hj35_0); (try clear hj67_0); (try clear hj93_0); (try clear ho9); (try clear htu); show_term (have zq286 : True := trivial; omega)) | show_term (have zq286 : True := trivial; omega))⟩) (by (first | ((try clear hne9); (try clear hj35_0); (try clear hj67_0); (try clear hj93_0); (try clear ho9); (try clear htu); show_term (have zq287 : True := trivial; omega)) | show_term (have zq287 : True := trivial; omega))) (by exact sIn.2.2.1) (by exact sIn.2.2.2)) (cwV 2 hts (gV_G k1400 k1402 ks_yX10_itemsIn k13 k1403) rfl rfl rfl (by decide +kernel) ⟨by show 1 + 1 ≤ _; show_term (have zq288 : True := trivial; omega), by show 8 + (5 + 11) + (14) ≤ _; show_term (have zq289 : True := trivial; omega)⟩) ⟨fun a U g mk q => by obtain ⟨q0, q1, qP, qK⟩ := q; exact ⟨q0, q1, qP, va_K.moved (u := U) (U := U.calling g mk a) (Vm.Alike.refl U.vm) qK⟩, va_recv hK hP (ci := 10) (q0 := 0) rfl ((fw_get (by decide)).trans (by rw [mE_obj]; rfl)), fun U hU hW => ⟨rfl, by rw [hU], by rw [hU]; exact hP, va_K.moved hW.alike hK⟩⟩ rfl rfl hl.1 rfl (lv_room (Nat.le_of_ble_eq_true rfl)) dX10_walks_372 ⟨hRc, hRs⟩) hS (fun q _ h => fA_le hS.1 q h) (fA_le hS.1) (fun r9 u9 t9 H1 locs ht9 hvm9 hw9 hB9 hz9 hk9 hS => ?_)
      obtain ⟨μ16, ri⟩ := u9
      obtain ⟨hP, -⟩ := hB9
      rw [ht9] at hP
      generalize H1 = H at hP hS ⊢
      obtain ⟨e9, hw9⟩ := hw9
      have e9 : r9 = iZ ri := e9
      subst e9
      simp only at hP hw9
      have hμ16 := hw9; clear hw9
      rw [hμ16.1] at hP; have hμ16 := hμ16.2
      have hri : ri = rI la := hμ16
      refine lv_goto (tgt := 389) hx hb dX10_walks_375 (by decide) ?_
      refine lv_iadd hx hb dX10_walks_389 ?_
      refine lv_topi (fun x9 ex9 => ?_)
      obtain rfl : x9 = iZ (j + ri) := ex9.trans (iZ_add _ _)
      refine lv_istore (lv' := [(4, .int (iZ (j + ri))), (3, .int (iZ (i + 1))), (7, .int (iZ (z15))), (5, .int (iZ (0))), (13, .int (iZ (0))), (12, .int (iZ (u1))), (11, .int (iZ (t))), (10, .int (iZ (x93_0))), (9, .int (iZ (x67_0))), (8, .int (iZ (2))), (6, .int (iZ (y))), (2, .int (iZ (o1))), (1, .int (iZ (n))), (0, .ref h0)]) hx hb dX10_walks_390 hl (by decide) rfl (fun ls hl => ?_)
      refine lv_goto (tgt := 14) hx hb dX10_walks_392 (by decide) ?_
      exact ih (i + 1) (j + ri) (0) (y) (z15) μr H locs ls (by
                    rw [show (i + 1).toNat = i.toNat + 1 by (first | ((try clear hne9); (try clear hj35_0); (try clear hj67_0); (try clear hj93_0); (try clear ho9); (try clear htu); show_term (have zq290 : True := trivial; omega)) | show_term (have zq290 : True := trivial; omega)), show (j + ri).toNat = j.toNat + rI la by (first | ((try clear hne9); (try clear hj35_0); (try clear hj67_0); (try clear hj93_0); (try clear ho9); (try clear htu); show_term (have zq291 : True := trivial; omega)) | show_term (have zq291 : True := trivial; omega)), sS, rdrop_add]
                    rw [show (0 : Int).toNat = 0 from rfl, wk_01]
                    exact hN) (by (first | ((try clear hne9); (try clear hj35_0); (try clear hj67_0); (try clear hj93_0); (try clear ho9); (try clear htu); show_term (have zq292 : True := trivial; omega)) | show_term (have zq292 : True := trivial; omega))) (by (first | ((try clear hne9); (try clear hj35_0); (try clear hj67_0); (try clear hj93_0); (try clear ho9); (try clear htu); show_term (have zq293 : True := trivial; omega)) | show_term (have zq293 : True := trivial; omega))) (by first | exact Or.inl rfl | exact Or.inr (Or.inl rfl) | exact Or.inr (Or.inr rfl)) (by
                    rw [show (i + 1).toNat = i.toNat + 1 by (first | ((try clear hne9); (try clear hj35_0); (try clear hj67_0); (try clear hj93_0); (try clear ho9); (try clear htu); show_term (have zq294 : True := trivial; omega)) | show_term (have zq294 : True := trivial; omega)), show (j + ri).toNat = j.toNat + rI la by (first | ((try clear hne9); (try clear hj35_0); (try clear hj67_0); (try clear hj93_0); (try clear ho9); (try clear htu); show_term (have zq295 : True := trivial; omega)) | show_term (have zq295 : True := trivial; omega)), sS, rdrop_add]
                    obtain ⟨a1_, a2_, a3_, a4_, a5_⟩ := al_is (Or.inl rfl) hmn
                    refine alI_and1 hz15 ez15 hal ((a2_ hy9).trans ?_)
                    show ((ks == 3) && (lay ra (rdrop (rI la) (rdrop j.toNat wP))).2) = _
                    rw [beq_iff_eq.mpr (by (first | ((try clear hne9); (try clear hj35_0); (try clear hj67_0); (try clear hj93_0); (try clear ho9); (try clear htu); show_term (have zq296 : True := trivial; omega)) | show_term (have zq296 : True := trivial; omega))), Bool.true_and]) (by (first | ((try clear hne9); (try clear hj35_0); (try clear hj67_0); (try clear hj93_0); (try clear ho9); (try clear htu); show_term (have zq297 : True := trivial; omega)) | show_term (have zq297 : True := trivial; omega))) hP hS (lv_sub hl [2, 10, 3, 0, 1, 11, 12, 13] rfl)
set_option maxHeartbeats 40000000 in
set_option maxRecDepth 100000 in
theorem LX10_walks_w3 {p : Program} {l : Launch} {e : Env} {R : Room} {s : State} {m : MethodId} {args : Array Value} {below : List Frame} {meth : Method} {c : Code} {cells slots : Nat} {Q : State → Prop} {dC : Nat → ClassId} {dI : Nat → Nat → Nat} {h0 : Nat} {cI cZ cII cIII : ClassId} {d9 : Nat} (hx : p.tables.exec = Jvm.exec) (hb : c.code = cX10_walks) (hml : c.maxLocals = 14) (hown : s.vm.findClass RX10 = some m.cls) (hts : ∀ w ∈ wsG, w.before args s = true) (hK : va_K (dC, dI) vwCl (mT cI cZ cII cIII) s) (hRf : 5 * d9 + 32 + 1 + 1 + 1 + 1 ≤ R.frames) (hRl : 200 * d9 + 900 + 40 + 40 + 40 + 40 ≤ R.locals) (hRc : cells ≤ R.cells) (hRs : slots ≤ R.slots) (μ0 : va_M) (n : Int) (o1 : Int) (t : Int) (u1 : Int) (wS : Rw) (wP : Rw) (ps : Int) (pq : Int) (hLR : ∀ (sz : Nat) (μ : va_M) (n : Int) (t : Int) (a1 : Int) (a2 : Int) (u1 : Int) (b1 : Int) (b2 : Int) (o1 : Int) (wS : Rw) (wP : Rw), (0 ≤ n ∧ n + rH wP ≤ 13) → (0 ≤ t ∧ t < 70) → (0 ≤ u1 ∧ u1 < 70) → (0 ≤ a1 ∧ a2 = a1 + rN wS ∧ a2 ≤ 900) → (0 ≤ b1 ∧ b2 = b1 + rN wP ∧ b2 ≤ 900) → (RA μ t.toNat wS a1.toNat) → (RA μ u1.toNat wP b1.toNat) → (rWF wS) → (rWF wP) → (rL wS ≤ 259 ∧ rL wP ≤ 60 ∧ rH wS ≤ 20) → (-1 ≤ o1 ∧ o1 < 70 ∧ o1 ≠ t ∧ o1 ≠ u1) → (capI2 o1 (μ 719 o1.toNat) (rN (lrow wS wP))) → (rH wP < d9) → Met l yX10_laysRow (Cond.code yX10_laysRow cX10_laysRow 13 (some .int) :: wsG) ({ frames := 5 * d9 + 32, cells := 0, slots := 0, locals := 200 * d9 + 900 } : Room) (va_Pc [.ref h0, .int (iZ (n)), .int (iZ (t)), .int (iZ (a1)), .int (iZ (a2)), .int (iZ (u1)), .int (iZ (b1)), .int (iZ (b2)), .int (iZ (o1))] (fun U => U.heap.size = sz ∧ va_P (dC, dI) vwCl (fw (mE cI cZ cII cIII h0) h0 6325 μ) U.heap ∧ va_K (dC, dI) vwCl (mT cI cZ cII cIII) U)) (va_Qi (fun (r9 : Int32) (u : va_M × Int) => r9 = iZ u.2 ∧ (fun (u : va_M) (r : Int) => r = (lay wS wP).1 ∧ u 0 33 = (if (lay wS wP).2 = true then 1 else 0) ∧ layO μ u n.toNat o1 (lrow wS wP)) u.1 u.2) (fun u t => va_P (dC, dI) vwCl (fw (mE cI cZ cII cIII h0) h0 6325 u.1) t.heap ∧ va_K (dC, dI) vwCl (mT cI cZ cII cIII) t) (fA h0 6325 sz)) 0 0 (fA h0 6325 sz)) (hn : 0 ≤ n ∧ n + rH wP ≤ 13) (hL : lvS μ0 n.toNat t u1 wS wP ps pq) (ht : 0 ≤ t ∧ t < 70) (hu : 0 ≤ u1 ∧ u1 < 70) (htu : t ≠ -1 ∧ u1 ≠ -1) (hps : 0 ≤ ps ∧ ps + rN wS ≤ 900) (hpq : 0 ≤ pq ∧ pq + rN wP ≤ 900) (hwS : rWF wS) (hwP : rWF wP) (h260 : rL wS ≤ 259 ∧ rL wP ≤ 60 ∧ rH wS ≤ 20) (hd : rH wP ≤ d9) (hle : leB μ0 n.toNat wS wP 0 0) (ho : -1 ≤ o1 ∧ o1 < 70 ∧ o1 ≠ t ∧ o1 ≠ u1) (hcap : capI2 o1 (μ0 719 o1.toNat) (rN (lrow wS wP))) (n9 : Nat) (i : Int) (j : Int) (o : Int) (y : Int) (al : Int) (μ : va_M) (x67_0 : Int) (x93_0 : Int) (hwc : wSt μ0 μ n.toNat o1 (μ0 719 o1.toNat) (lrow wS wP) o y (wk o.toNat (rdrop i.toNat wS) (rdrop j.toNat wP)).1 (wk o.toNat (rdrop i.toNat wS) (rdrop j.toNat wP)).2) (hLc : lvS μ n.toNat t u1 wS wP ps pq) (hmn : wmin lay (rdrop i.toNat wS) (rdrop j.toNat wP) < 1000000) (hne9 : hsd (rdrop i.toNat wS) = true ∨ hsd (rdrop j.toNat wP) = true) (hj35_0 : i < (rI wS : Int) ∨ j < (rI wP : Int)) (hj67_0 : i < (rI wS : Int) → x67_0 = ps + (rO wS i.toNat : Int)) (hj93_0 : j < (rI wP : Int) → x93_0 = pq + (rO wP j.toNat : Int)) (hi : 0 ≤ i ∧ i ≤ rI wS) (hj : 0 ≤ j ∧ j ≤ rI wP) (ho9 : o = 0 ∨ o = 4 ∨ o = 5) (hal : alI al (rdrop i.toNat wS) (rdrop j.toNat wP) wS wP) (hwy : (wayOf (rdrop i.toNat wS) (rdrop j.toNat wP) : Int) = 3) (hm9 : (rI wS - i + (rI wP - j)).toNat < n9 + 1) (ih : ∀ (i : Int) (j : Int) (o : Int) (y : Int) (al : Int) (μ : va_M) (H : Heap) (locs : List Loc) (ls : Array Slot), (wSt μ0 μ n.toNat o1 (μ0 719 o1.toNat) (lrow wS wP) o y (wk o.toNat (rdrop i.toNat wS) (rdrop j.toNat wP)).1 (wk o.toNat (rdrop i.toNat wS) (rdrop j.toNat wP)).2) → (0 ≤ i ∧ i ≤ rI wS) → (0 ≤ j ∧ j ≤ rI wP) → (o = 0 ∨ o = 4 ∨ o = 5) → (alI al (rdrop i.toNat wS) (rdrop j.toNat wP) wS wP) → (rI wS - i + (rI wP - j)).toNat < n9 → va_P (dC, dI) vwCl (fw (mE cI cZ cII cIII h0) h0 6325 μ) H → va_S (fA h0 6325 s.heap.size) s.heap H locs → lv_has ls 14 [(7, .int (iZ (al))), (6, .int (iZ (y))), (5, .int (iZ (o))), (4, .int (iZ (j))), (3, .int (iZ (i))), (2, .int (iZ (o1))), (1, .int (iZ (n))), (0, .ref h0)] → W p l e R s m args below meth c H locs cells slots Q (F0 m 14 ls [])) :
    ∀ (H : Heap) (locs : List Loc) (ls : Array Slot), va_P (dC, dI) vwCl (fw (mE cI cZ cII cIII h0) h0 6325 μ) H → va_S (fA h0 6325 s.heap.size) s.heap H locs → lv_has ls 14 [(12, .int (iZ (u1))), (11, .int (iZ (t))), (10, .int (iZ (x93_0))), (9, .int (iZ (x67_0))), (8, .int (iZ (3))), (7, .int (iZ (al))), (6, .int (iZ (y))), (5, .int (iZ (o))), (4, .int (iZ (j))), (3, .int (iZ (i))), (2, .int (iZ (o1))), (1, .int (iZ (n))), (0, .ref h0)] → W p l e R s m args below meth c H locs cells slots Q (F0 m 111 ls []) := by
  intro H locs ls hP hS hl
  have hIS := rI_L wS hwS
  have hIP := rI_L wP hwP
  have hLx0 := hLc
  have hwy : wayOf (rdrop i.toNat wS) (rdrop j.toNat wP) = 3 := by (first | ((try clear hne9); (try clear hj35_0); (try clear hj67_0); (try clear hj93_0); (try clear ho9); (try clear htu); show_term (have zq298 : True := trivial; omega)) | show_term (have zq298 : True := trivial; omega))
  have hy9 : wayOf (rdrop i.toNat wS) (rdrop j.toNat wP) = 3 := by (first | ((try clear hne9); (try clear hj35_0); (try clear hj67_0); (try clear hj93_0); (try clear ho9); (try clear htu); show_term (have zq299 : True := trivial; omega)) | show_term (have zq299 : True := trivial; omega))
  have hh9 := way_hsd.1 (Or.inr (Or.inr hy9))
  have hi9 : i < (rI wS : Int) := by
    have h9 := hsd_I.mp hh9.1
    rw [rdrop_I] at h9
    show_term (have zq300 : True := trivial; omega)
  have hj9 : j < (rI wP : Int) := by
    have h9 := hsd_I.mp hh9.2
    rw [rdrop_I] at h9
    show_term (have zq301 : True := trivial; omega)
  have p_0 := rdrop_I j.toNat wP
  have p_1 := rdrop_N j.toNat wP
  have p_9 := rdrop_H j.toNat wP
  have p_3 := rdrop_WF j.toNat wP hwP
  obtain ⟨zp, kp, vp, lb, rb, hep⟩ := rI_pos (w := rdrop j.toNat wP) (by (first | ((try clear hne9); (try clear hj35_0); (try clear hj67_0); (try clear hj93_0); (try clear ho9); (try clear htu); show_term (have zq302 : True := trivial; omega)) | show_term (have zq302 : True := trivial; omega)))
  rw [hep] at p_0 p_1 p_3 p_9 hy9 hmn hwc hal
  rw [rN_in] at p_1
  rw [rI_in] at p_0
  rw [rH_in] at p_9
  have pF : iWF kp vp lb := ⟨p_3.1, p_3.2.1, p_3.2.2.1, p_3.2.2.2.1, p_3.2.2.2.2.1, p_3.2.2.2.2.2.1, p_3.2.2.2.2.2.2.1⟩
  have pFk : kp ≤ 4 := p_3.1
  clear p_3
  have pS := rdrop_S hep
  have pSI := rI_N2 lb
  have pSL : rL lb ≤ rL wP := Nat.le_trans (by rw [hep]; exact rL_l) (rdrop_L j.toNat wP)
  have hx_p_ : x93_0 = pq + (rO wP j.toNat : Int) := hj93_0 hj9
  rw [wk_3 hy9] at hwc
  dsimp only at hwc
  obtain ⟨hk3, hnx⟩ := way3_c hy9 hmn
  have hnI := nxt_I _ _ hnx
  rw [rdrop_I] at hnI
  have hnN := nx_N pF.2.2.2.2.2.2 (rdrop_WF _ _ hwS) hnx
  clear hne9 hj35_0 hj67_0 hj93_0
  rcases (show o = 0 ∨ o = 4 ∨ o = 5 from by exact ho9) with rfl | rfl | rfl
  · clear ho9
    refine lv_iload hx hb dX10_walks_111 (lv_at hl 4 rfl) ?_
    refine lv_iconst (v := iZ 5) hx hb dX10_walks_113 rfl ?_
    refine fz_icmp_eq (tgt := 137) (by decide) (by decide) hx hb dX10_walks_114 (by decide) (fun h9 => absurd h9 (by decide)) (fun c114_ => ?_)
    refine lv_iload hx hb dX10_walks_117 (lv_at hl 4 rfl) ?_
    refine lv_iconst (v := iZ 4) hx hb dX10_walks_119 rfl ?_
    refine fz_icmp_ne (tgt := 141) (by decide) (by decide) hx hb dX10_walks_120 (by decide) (fun c120_ => ?_) (fun h9 => absurd h9 (by decide))
    refine lv_iconst (v := iZ 0) hx hb dX10_walks_141 rfl ?_
    refine lv_istore (lv' := [(13, .int (iZ (0))), (12, .int (iZ (u1))), (11, .int (iZ (t))), (10, .int (iZ (x93_0))), (9, .int (iZ (x67_0))), (8, .int (iZ (3))), (7, .int (iZ (al))), (6, .int (iZ (y))), (5, .int (iZ (0))), (4, .int (iZ (j))), (3, .int (iZ (i))), (2, .int (iZ (o1))), (1, .int (iZ (n))), (0, .ref h0)]) hx hb dX10_walks_142 hl (by decide) rfl (fun ls hl => ?_)
    refine lv_iload hx hb dX10_walks_144 (lv_at hl 8 rfl) ?_
    refine fz_if_le (tgt := 171) (by decide) hx hb dX10_walks_146 (by decide) (fun c146_ => ?_) (fun h9 => absurd h9 (by decide))
    have hC := hwc
    have hLx := lvS_wSt hL hC (by (first | ((try clear hne9); (try clear hj35_0); (try clear hj67_0); (try clear hj93_0); (try clear ho9); (try clear htu); show_term (have zq303 : True := trivial; omega)) | show_term (have zq303 : True := trivial; omega))) ht hu ho
    have pIA : IA μ u1.toNat x93_0.toNat kp vp lb := by rw [hx_p_]; exact IA_P hLx (by (first | ((try clear hne9); (try clear hj35_0); (try clear hj67_0); (try clear hj93_0); (try clear ho9); (try clear htu); show_term (have zq304 : True := trivial; omega)) | show_term (have zq304 : True := trivial; omega))) hep
    refine lv_iload hx hb dX10_walks_171 (lv_at hl 0 rfl) ?_
    refine fz_if_eq (tgt := 194) (by decide) hx hb dX10_walks_173 (by decide) (fun c173_ => ?_) (fun h9 => absurd h9 (by decide))
    refine lv_iload hx hb dX10_walks_194 (lv_at hl 5 rfl) ?_
    refine lv_iconst (v := iZ 1) hx hb dX10_walks_196 rfl ?_
    refine fz_icmp_ne (tgt := 211) (by decide) (by decide) hx hb dX10_walks_197 (by decide) (fun c197_ => ?_) (fun h9 => absurd h9 (by decide))
    refine lv_iload hx hb dX10_walks_211 (lv_at hl 5 rfl) ?_
    refine lv_iconst (v := iZ 2) hx hb dX10_walks_213 rfl ?_
    refine fz_icmp_ne (tgt := 237) (by decide) (by decide) hx hb dX10_walks_214 (by decide) (fun c214_ => ?_) (fun h9 => absurd h9 (by decide))
    refine lv_iload hx hb dX10_walks_237 (lv_at hl 5 rfl) ?_
    refine lv_iconst (v := iZ 3) hx hb dX10_walks_239 rfl ?_
    refine fz_icmp_ne (tgt := 262) (by decide) (by decide) hx hb dX10_walks_240 (by decide) (fun h9 => absurd h9 (by decide)) (fun c240_ => ?_)
    refine lv_aload_n hx hb dX10_walks_243 rfl (lv_at hl 13 rfl) ?_
    refine lv_iload hx hb dX10_walks_244 (lv_at hl 1 rfl) ?_
    refine lv_iload hx hb dX10_walks_246 (lv_at hl 3 rfl) ?_
    refine lv_iload hx hb dX10_walks_248 (lv_at hl 2 rfl) ?_
    refine lv_aload_n hx hb dX10_walks_250 rfl (lv_at hl 13 rfl) ?_
    refine fz_get (D := (dC, dI)) (ci := 10) (v := .ref (h0 + 722)) (C := RX10) (T := TX10) (N := 53) hx hb hts inG10 hown hK hP (k := 0) (by decide) (F := mF h0) mE_obj rfl 29 (by decide) (hts _ k1195) (fun _ h9 => h9) rfl dX10_walks_251 ?_
    refine lv_iload_n hx hb dX10_walks_254 rfl (lv_at hl 12 rfl) ?_
    refine fz_ald (k := 722) (n := 14) (k2 := (723 + (n).toNat)) hx hb hK hP 2 rfl (by decide) mE_rowS rfl ⟨by (first | ((try clear hne9); (try clear hj35_0); (try clear hj67_0); (try clear hj93_0); (try clear ho9); (try clear htu); show_term (have zq305 : True := trivial; omega)) | show_term (have zq305 : True := trivial; omega)), by (first | ((try clear hne9); (try clear hj35_0); (try clear hj67_0); (try clear hj93_0); (try clear ho9); (try clear htu); show_term (have zq306 : True := trivial; omega)) | show_term (have zq306 : True := trivial; omega))⟩ (by decide) (if_pos (by (first | ((try clear hne9); (try clear hj35_0); (try clear hj67_0); (try clear hj93_0); (try clear ho9); (try clear htu); show_term (have zq307 : True := trivial; omega)) | show_term (have zq307 : True := trivial; omega)))) dX10_walks_255 ?_
    refine lv_iload_n hx hb dX10_walks_256 rfl (lv_at hl 10 rfl) ?_
    refine lv_iload_n hx hb dX10_walks_257 rfl (lv_at hl 11 rfl) ?_
    refine va_calli (va_runV (As := [.int (iZ (u1)), .int (iZ (x93_0)), .int (iZ (t)), .ref (h0 + (723 + (n).toNat)), .int (iZ (i)), .int (iZ (o1))]) (rest := []) ⟨hx, hb, hml, hown, hts⟩ (m_fusesRow l dC dI cI cZ cII cIII h0 H.size μ (u1) (x93_0) (t) ((723 + n.toNat)) (i) (o1) (kp) (vp) (lb) (wS) (ps) (by first | assumption | ((try clear hne9); (try clear hj35_0); (try clear hj67_0); (try clear hj93_0); (try clear ho9); (try clear htu); show_term (have zq308 : True := trivial; omega)) | show_term (have zq308 : True := trivial; omega) | exact ⟨by (first | ((try clear hne9); (try clear hj35_0); (try clear hj67_0); (try clear hj93_0); (try clear ho9); (try clear htu); show_term (have zq309 : True := trivial; omega)) | show_term (have zq309 : True := trivial; omega)), by (first | ((try clear hne9); (try clear hj35_0); (try clear hj67_0); (try clear hj93_0); (try clear ho9); (try clear htu); show_term (have zq310 : True := trivial; omega)) | show_term (have zq310 : True := trivial; omega))⟩) (by first | assumption | ((try clear hne9); (try clear hj35_0); (try clear hj67_0); (try clear hj93_0); (try clear ho9); (try clear htu); show_term (have zq311 : True := trivial; omega)) | show_term (have zq311 : True := trivial; omega) | exact ⟨by (first | ((try clear hne9); (try clear hj35_0); (try clear hj67_0); (try clear hj93_0); (try clear ho9); (try clear htu); show_term (have zq312 : True := trivial; omega)) | show_term (have zq312 : True := trivial; omega)), by (first | ((try clear hne9); (try clear hj35_0); (try clear hj67_0); (try clear hj93_0); (try clear ho9); (try clear htu); show_term (have zq313 : True := trivial; omega)) | show_term (have zq313 : True := trivial; omega))⟩) (by (first | ((try clear hne9); (try clear hj35_0); (try clear hj67_0); (try clear hj93_0); (try clear ho9); (try clear htu); show_term (have zq314 : True := trivial; omega)) | show_term (have zq314 : True := trivial; omega))) (by exact pIA) (by exact pF) (by exact Or.inl ⟨by (first | ((try clear hne9); (try clear hj35_0); (try clear hj67_0); (try clear hj93_0); (try clear ho9); (try clear htu); show_term (have zq315 : True := trivial; omega)) | show_term (have zq315 : True := trivial; omega)), by (first | ((try clear hne9); (try clear hj35_0); (try clear hj67_0); (try clear hj93_0); (try clear ho9); (try clear htu); show_term (have zq316 : True := trivial; omega)) | show_term (have zq316 : True := trivial; omega))⟩) (by exact hLx.2.2.2.2.1) (by exact hLx.2.2.2.2.2.2.1) (by exact hps) (by exact hwS) (by (first | ((try clear hne9); (try clear hj35_0); (try clear hj67_0); (try clear hj93_0); (try clear ho9); (try clear htu); show_term (have zq317 : True := trivial; omega)) | show_term (have zq317 : True := trivial; omega))) (by exact hi) (by (first | ((try clear hne9); (try clear hj35_0); (try clear hj67_0); (try clear hj93_0); (try clear ho9); (try clear htu); show_term (have zq318 : True := trivial; omega)) | show_term (have zq318 : True := trivial; omega))) (by (first | ((try clear hne9); (try clear hj35_0); (try clear hj67_0); (try clear hj93_0); (try clear ho9); (try clear htu); show_term (have zq319 : True := trivial; omega)) | show_term (have zq319 : True := trivial; omega))) (by exact hnx) (by intro h; have h9 := wSt_cap hC hcap h; rw [rN_in, hnN] at h9; show_term (have zq320 : True := trivial; omega))) (cwV 6 hts (gV_G k1468 k1470 ks_yX10_fusesRow k13 k1471) rfl rfl rfl (by decide +kernel) ⟨by show 24 + 1 ≤ _; show_term (have zq321 : True := trivial; omega), by show 8 + (11 + 11) + (740) ≤ _; show_term (have zq322 : True := trivial; omega)⟩) ⟨fun a U g mk q => by obtain ⟨q0, q1, qP, qK⟩ := q; exact ⟨q0, q1, qP, va_K.moved (u := U) (U := U.calling g mk a) (Vm.Alike.refl U.vm) qK⟩, va_recv hK hP (ci := 10) (q0 := 0) rfl ((fw_get (by decide)).trans (by rw [mE_obj]; rfl)), fun U hU hW => ⟨rfl, by rw [hU], by rw [hU]; exact hP, va_K.moved hW.alike hK⟩⟩ rfl rfl hl.1 rfl (lv_room (Nat.le_of_ble_eq_true rfl)) dX10_walks_258 ⟨hRc, hRs⟩) hS (fun q _ h => fA_le hS.1 q h) (fA_le hS.1) (fun r9 u9 t9 H1 locs ht9 hvm9 hw9 hB9 hz9 hk9 hS => ?_)
    obtain ⟨μr, rr9⟩ := u9
    obtain ⟨hP, -⟩ := hB9
    rw [ht9] at hP
    generalize H1 = H at hP hS ⊢
    obtain ⟨e9, hw9⟩ := hw9
    have e9 : r9 = iZ rr9 := e9
    subst e9
    simp only at hP hw9
    have hμr := hw9; clear hw9
    subst hk3
    have hN := wSt_it0 hC (by (first | ((try clear hne9); (try clear hj35_0); (try clear hj67_0); (try clear hj93_0); (try clear ho9); (try clear htu); show_term (have zq323 : True := trivial; omega)) | show_term (have zq323 : True := trivial; omega))) (layO_fu hμr hnN) y
    have hLn := lvS_wSt hL hN (by (first | ((try clear hne9); (try clear hj35_0); (try clear hj67_0); (try clear hj93_0); (try clear ho9); (try clear htu); show_term (have zq324 : True := trivial; omega)) | show_term (have zq324 : True := trivial; omega))) ht hu ho
    have pIn : IA μr u1.toNat x93_0.toNat 4 vp lb := by rw [hx_p_]; exact IA_P hLn (by (first | ((try clear hne9); (try clear hj35_0); (try clear hj67_0); (try clear hj93_0); (try clear ho9); (try clear htu); show_term (have zq325 : True := trivial; omega)) | show_term (have zq325 : True := trivial; omega))) hep
    refine lv_pop hx hb dX10_walks_261 rfl ?_
    refine lv_iload hx hb dX10_walks_262 (lv_at hl 5 rfl) ?_
    refine lv_iconst (v := iZ 4) hx hb dX10_walks_264 rfl ?_
    refine fz_icmp_ne (tgt := 277) (by decide) (by decide) hx hb dX10_walks_265 (by decide) (fun c265_ => ?_) (fun h9 => absurd h9 (by decide))
    refine lv_iload hx hb dX10_walks_277 (lv_at hl 5 rfl) ?_
    refine lv_iconst (v := iZ 5) hx hb dX10_walks_279 rfl ?_
    refine fz_icmp_ne (tgt := 292) (by decide) (by decide) hx hb dX10_walks_280 (by decide) (fun c280_ => ?_) (fun h9 => absurd h9 (by decide))
    refine lv_iload hx hb dX10_walks_292 (lv_at hl 6 rfl) ?_
    refine lv_iload hx hb dX10_walks_294 (lv_at hl 5 rfl) ?_
    refine lv_iconst (v := iZ 3) hx hb dX10_walks_296 rfl ?_
    refine fz_icmp_gt (tgt := 320) (by decide) (by decide) hx hb dX10_walks_297 (by decide) (fun h9 => absurd h9 (by decide)) (fun c297_ => ?_)
    refine lv_iload hx hb dX10_walks_300 (lv_at hl 5 rfl) ?_
    refine lv_iconst (v := iZ 2) hx hb dX10_walks_302 rfl ?_
    refine fz_icmp_ne (tgt := 324) (by decide) (by decide) hx hb dX10_walks_303 (by decide) (fun c303_ => ?_) (fun h9 => absurd h9 (by decide))
    refine lv_iconst (v := iZ 0) hx hb dX10_walks_324 rfl ?_
    refine lv_iand hx hb dX10_walks_325 ?_
    refine lv_topi (fun x9 ex9 => ?_)
    obtain ⟨z17, rfl, hz17⟩ := iZ_ex x9
    have ez17 := ex9; clear ex9
    refine lv_istore (lv' := [(7, .int (iZ (z17))), (13, .int (iZ (0))), (12, .int (iZ (u1))), (11, .int (iZ (t))), (10, .int (iZ (x93_0))), (9, .int (iZ (x67_0))), (8, .int (iZ (3))), (6, .int (iZ (y))), (5, .int (iZ (0))), (4, .int (iZ (j))), (3, .int (iZ (i))), (2, .int (iZ (o1))), (1, .int (iZ (n))), (0, .ref h0)]) hx hb dX10_walks_326 hl (by decide) rfl (fun ls hl => ?_)
    refine lv_iload_n hx hb dX10_walks_328 rfl (lv_at hl 10 rfl) ?_
    refine lv_iload hx hb dX10_walks_329 (lv_at hl 6 rfl) ?_
    refine lv_iconst (v := iZ 3) hx hb dX10_walks_331 rfl ?_
    refine fz_icmp_ne (tgt := 346) (by decide) (by decide) hx hb dX10_walks_332 (by decide) (fun h9 => absurd h9 (by decide)) (fun c332_ => ?_)
    refine lv_aload_n hx hb dX10_walks_335 rfl (lv_at hl 13 rfl) ?_
    refine lv_iload hx hb dX10_walks_336 (lv_at hl 2 rfl) ?_
    refine lv_iload hx hb dX10_walks_338 (lv_at hl 4 rfl) ?_
    refine va_calli (va_runV (As := [.int (iZ (u1)), .int (iZ (x93_0))]) (rest := [.int (iZ (i))]) ⟨hx, hb, hml, hown, hts⟩ (m_itemsIn l dC dI cI cZ cII cIII h0 H.size μr (u1) (x93_0) (lb) (by first | assumption | ((try clear hne9); (try clear hj35_0); (try clear hj67_0); (try clear hj93_0); (try clear ho9); (try clear htu); show_term (have zq326 : True := trivial; omega)) | show_term (have zq326 : True := trivial; omega) | exact ⟨by (first | ((try clear hne9); (try clear hj35_0); (try clear hj67_0); (try clear hj93_0); (try clear ho9); (try clear htu); show_term (have zq327 : True := trivial; omega)) | show_term (have zq327 : True := trivial; omega)), by (first | ((try clear hne9); (try clear hj35_0); (try clear hj67_0); (try clear hj93_0); (try clear ho9); (try clear htu); show_term (have zq328 : True := trivial; omega)) | show_term (have zq328 : True := trivial; omega))⟩) (by (first | ((try clear hne9); (try clear hj35_0); (try clear hj67_0); (try clear hj93_0); (try clear ho9); (try clear htu); show_term (have zq329 : True := trivial; omega)) | show_term (have zq329 : True := trivial; omega))) (by exact pIn.2.2.1) (by exact pIn.2.2.2)) (cwV 2 hts (gV_G k1400 k1402 ks_yX10_itemsIn k13 k1403) rfl rfl rfl (by decide +kernel) ⟨by show 1 + 1 ≤ _; show_term (have zq330 : True := trivial; omega), by show 8 + (5 + 11) + (14) ≤ _; show_term (have zq331 : True := trivial; omega)⟩) ⟨fun a U g mk q => by obtain ⟨q0, q1, qP, qK⟩ := q; exact ⟨q0, q1, qP, va_K.moved (u := U) (U := U.calling g mk a) (Vm.Alike.refl U.vm) qK⟩, va_recv hK hP (ci := 10) (q0 := 0) rfl ((fw_get (by decide)).trans (by rw [mE_obj]; rfl)), fun U hU hW => ⟨rfl, by rw [hU], by rw [hU]; exact hP, va_K.moved hW.alike hK⟩⟩ rfl rfl hl.1 rfl (lv_room (Nat.le_of_ble_eq_true rfl)) dX10_walks_340 ⟨hRc, hRs⟩) hS (fun q _ h => fA_le hS.1 q h) (fA_le hS.1) (fun r9 u9 t9 H1 locs ht9 hvm9 hw9 hB9 hz9 hk9 hS => ?_)
    obtain ⟨μ18, ri⟩ := u9
    obtain ⟨hP, -⟩ := hB9
    rw [ht9] at hP
    generalize H1 = H at hP hS ⊢
    obtain ⟨e9, hw9⟩ := hw9
    have e9 : r9 = iZ ri := e9
    subst e9
    simp only at hP hw9
    have hμ18 := hw9; clear hw9
    rw [hμ18.1] at hP; have hμ18 := hμ18.2
    have hri : ri = rI lb := hμ18
    refine lv_goto (tgt := 357) hx hb dX10_walks_343 (by decide) ?_
    refine lv_iadd hx hb dX10_walks_357 ?_
    refine lv_topi (fun x9 ex9 => ?_)
    obtain rfl : x9 = iZ (i + ri) := ex9.trans (iZ_add _ _)
    refine lv_istore_n (lv' := [(3, .int (iZ (i + ri))), (7, .int (iZ (z17))), (13, .int (iZ (0))), (12, .int (iZ (u1))), (11, .int (iZ (t))), (10, .int (iZ (x93_0))), (9, .int (iZ (x67_0))), (8, .int (iZ (3))), (6, .int (iZ (y))), (5, .int (iZ (0))), (4, .int (iZ (j))), (2, .int (iZ (o1))), (1, .int (iZ (n))), (0, .ref h0)]) hx hb dX10_walks_358 rfl hl (by decide) rfl (fun ls hl => ?_)
    refine lv_iload hx hb dX10_walks_359 (lv_at hl 10 rfl) ?_
    refine lv_iload hx hb dX10_walks_361 (lv_at hl 7 rfl) ?_
    refine lv_iconst (v := iZ 2) hx hb dX10_walks_363 rfl ?_
    refine fz_icmp_ne (tgt := 378) (by decide) (by decide) hx hb dX10_walks_364 (by decide) (fun c364_ => ?_) (fun h9 => absurd h9 (by decide))
    refine lv_iload hx hb dX10_walks_378 (lv_at hl 7 rfl) ?_
    refine lv_iconst (v := iZ 4) hx hb dX10_walks_380 rfl ?_
    refine fz_icmp_ne (tgt := 388) (by decide) (by decide) hx hb dX10_walks_381 (by decide) (fun c381_ => ?_) (fun h9 => absurd h9 (by decide))
    refine lv_iconst (v := iZ 1) hx hb dX10_walks_388 rfl ?_
    refine lv_iadd hx hb dX10_walks_389 ?_
    refine lv_topi (fun x9 ex9 => ?_)
    obtain rfl : x9 = iZ (j + 1) := ex9.trans (iZ_add _ _)
    refine lv_istore (lv' := [(4, .int (iZ (j + 1))), (3, .int (iZ (i + ri))), (7, .int (iZ (z17))), (13, .int (iZ (0))), (12, .int (iZ (u1))), (11, .int (iZ (t))), (10, .int (iZ (x93_0))), (9, .int (iZ (x67_0))), (8, .int (iZ (3))), (6, .int (iZ (y))), (5, .int (iZ (0))), (2, .int (iZ (o1))), (1, .int (iZ (n))), (0, .ref h0)]) hx hb dX10_walks_390 hl (by decide) rfl (fun ls hl => ?_)
    refine lv_goto (tgt := 14) hx hb dX10_walks_392 (by decide) ?_
    exact ih (i + ri) (j + 1) (0) (y) (z17) μr H locs ls (by
                rw [show (i + ri).toNat = i.toNat + rI lb by (first | ((try clear hne9); (try clear hj35_0); (try clear hj67_0); (try clear hj93_0); (try clear ho9); (try clear htu); show_term (have zq332 : True := trivial; omega)) | show_term (have zq332 : True := trivial; omega)), show (j + 1).toNat = j.toNat + 1 by (first | ((try clear hne9); (try clear hj35_0); (try clear hj67_0); (try clear hj93_0); (try clear ho9); (try clear htu); show_term (have zq333 : True := trivial; omega)) | show_term (have zq333 : True := trivial; omega)), pS, rdrop_add]
                rw [show (0 : Int).toNat = 0 from rfl, wk_01]
                exact hN) (by (first | ((try clear hne9); (try clear hj35_0); (try clear hj67_0); (try clear hj93_0); (try clear ho9); (try clear htu); show_term (have zq334 : True := trivial; omega)) | show_term (have zq334 : True := trivial; omega))) (by (first | ((try clear hne9); (try clear hj35_0); (try clear hj67_0); (try clear hj93_0); (try clear ho9); (try clear htu); show_term (have zq335 : True := trivial; omega)) | show_term (have zq335 : True := trivial; omega))) (by first | exact Or.inl rfl | exact Or.inr (Or.inl rfl) | exact Or.inr (Or.inr rfl)) (by
                rw [show (i + ri).toNat = i.toNat + rI lb by (first | ((try clear hne9); (try clear hj35_0); (try clear hj67_0); (try clear hj93_0); (try clear ho9); (try clear htu); show_term (have zq336 : True := trivial; omega)) | show_term (have zq336 : True := trivial; omega)), show (j + 1).toNat = j.toNat + 1 by (first | ((try clear hne9); (try clear hj35_0); (try clear hj67_0); (try clear hj93_0); (try clear ho9); (try clear htu); show_term (have zq337 : True := trivial; omega)) | show_term (have zq337 : True := trivial; omega)), pS, rdrop_add]
                obtain ⟨a1_, a2_, a3_, a4_, a5_⟩ := al_is (Or.inr rfl) hmn
                exact alI_and0 hz17 ez17 hal (a3_ hy9)) (by (first | ((try clear hne9); (try clear hj35_0); (try clear hj67_0); (try clear hj93_0); (try clear ho9); (try clear htu); show_term (have zq338 : True := trivial; omega)) | show_term (have zq338 : True := trivial; omega))) hP hS (lv_sub hl [2, 9, 10, 0, 1, 11, 12, 13] rfl)
  · clear ho9
    refine lv_iload hx hb dX10_walks_111 (lv_at hl 4 rfl) ?_
    refine lv_iconst (v := iZ 5) hx hb dX10_walks_113 rfl ?_
    refine fz_icmp_eq (tgt := 137) (by decide) (by decide) hx hb dX10_walks_114 (by decide) (fun h9 => absurd h9 (by decide)) (fun c114_ => ?_)
    refine lv_iload hx hb dX10_walks_117 (lv_at hl 4 rfl) ?_
    refine lv_iconst (v := iZ 4) hx hb dX10_walks_119 rfl ?_
    refine fz_icmp_ne (tgt := 141) (by decide) (by decide) hx hb dX10_walks_120 (by decide) (fun c120_ => ?_) (fun h9 => absurd h9 (by decide))
    refine lv_iconst (v := iZ 0) hx hb dX10_walks_141 rfl ?_
    refine lv_istore (lv' := [(13, .int (iZ (0))), (12, .int (iZ (u1))), (11, .int (iZ (t))), (10, .int (iZ (x93_0))), (9, .int (iZ (x67_0))), (8, .int (iZ (3))), (7, .int (iZ (al))), (6, .int (iZ (y))), (5, .int (iZ (4))), (4, .int (iZ (j))), (3, .int (iZ (i))), (2, .int (iZ (o1))), (1, .int (iZ (n))), (0, .ref h0)]) hx hb dX10_walks_142 hl (by decide) rfl (fun ls hl => ?_)
    refine lv_iload hx hb dX10_walks_144 (lv_at hl 8 rfl) ?_
    refine fz_if_le (tgt := 171) (by decide) hx hb dX10_walks_146 (by decide) (fun h9 => absurd h9 (by decide)) (fun c146_ => ?_)
    refine lv_iload hx hb dX10_walks_149 (lv_at hl 0 rfl) ?_
    refine fz_if_eq (tgt := 161) (by decide) hx hb dX10_walks_151 (by decide) (fun c151_ => ?_) (fun h9 => absurd h9 (by decide))
    refine lv_aload_n hx hb dX10_walks_161 rfl (lv_at hl 13 rfl) ?_
    refine lv_iload_n hx hb dX10_walks_162 rfl (lv_at hl 11 rfl) ?_
    refine lv_iload hx hb dX10_walks_163 (lv_at hl 7 rfl) ?_
    refine va_callv (va_runV (As := [.int (iZ (o1)), .int (iZ (y))]) (rest := []) ⟨hx, hb, hml, hown, hts⟩ (m_closes l dC dI cI cZ cII cIII h0 H.size μ (o1) (y) (by first | assumption | ((try clear hne9); (try clear hj35_0); (try clear hj67_0); (try clear hj93_0); (try clear ho9); (try clear htu); show_term (have zq339 : True := trivial; omega)) | show_term (have zq339 : True := trivial; omega) | exact ⟨by (first | ((try clear hne9); (try clear hj35_0); (try clear hj67_0); (try clear hj93_0); (try clear ho9); (try clear htu); show_term (have zq340 : True := trivial; omega)) | show_term (have zq340 : True := trivial; omega)), by (first | ((try clear hne9); (try clear hj35_0); (try clear hj67_0); (try clear hj93_0); (try clear ho9); (try clear htu); show_term (have zq341 : True := trivial; omega)) | show_term (have zq341 : True := trivial; omega))⟩) (by intro h; exact (wSt_cap hwc hcap h).2.2 (by (first | ((try clear hne9); (try clear hj35_0); (try clear hj67_0); (try clear hj93_0); (try clear ho9); (try clear htu); show_term (have zq342 : True := trivial; omega)) | show_term (have zq342 : True := trivial; omega))))) (cwV 2 hts (gV_G k1420 k1422 ks_yX10_closes k13 k1423) rfl rfl rfl (by decide +kernel) ⟨by show 1 + 1 ≤ _; show_term (have zq343 : True := trivial; omega), by show 8 + (3 + 11) + (14) ≤ _; show_term (have zq344 : True := trivial; omega)⟩) ⟨fun a U g mk q => by obtain ⟨q0, q1, qP, qK⟩ := q; exact ⟨q0, q1, qP, va_K.moved (u := U) (U := U.calling g mk a) (Vm.Alike.refl U.vm) qK⟩, va_recv hK hP (ci := 10) (q0 := 0) rfl ((fw_get (by decide)).trans (by rw [mE_obj]; rfl)), fun U hU hW => ⟨rfl, by rw [hU], by rw [hU]; exact hP, va_K.moved hW.alike hK⟩⟩ rfl rfl hl.1 rfl (lv_room (Nat.le_of_ble_eq_true rfl)) dX10_walks_165 ⟨hRc, hRs⟩) hS (fun q _ h => fA_le hS.1 q h) (fA_le hS.1) (fun u9 t9 H1 locs ht9 hvm9 hw9 hB9 hz9 hk9 hS => ?_)
    obtain ⟨hP, -⟩ := hB9
    rw [ht9] at hP
    generalize H1 = H at hP hS ⊢
    obtain ⟨μd, eμd⟩ : ∃ x : va_M, x = u9 := ⟨_, rfl⟩
    rw [← eμd] at hP hw9
    have hμd := hw9; clear hw9
    have hC := wSt_close hwc (by (first | ((try clear hne9); (try clear hj35_0); (try clear hj67_0); (try clear hj93_0); (try clear ho9); (try clear htu); show_term (have zq345 : True := trivial; omega)) | show_term (have zq345 : True := trivial; omega))) (by (first | ((try clear hne9); (try clear hj35_0); (try clear hj67_0); (try clear hj93_0); (try clear ho9); (try clear htu); show_term (have zq346 : True := trivial; omega)) | show_term (have zq346 : True := trivial; omega))) hμd y
    refine lv_iconst (v := iZ 0) hx hb dX10_walks_168 rfl ?_
    refine lv_istore (lv' := [(5, .int (iZ (0))), (13, .int (iZ (0))), (12, .int (iZ (u1))), (11, .int (iZ (t))), (10, .int (iZ (x93_0))), (9, .int (iZ (x67_0))), (8, .int (iZ (3))), (7, .int (iZ (al))), (6, .int (iZ (y))), (4, .int (iZ (j))), (3, .int (iZ (i))), (2, .int (iZ (o1))), (1, .int (iZ (n))), (0, .ref h0)]) hx hb dX10_walks_169 hl (by decide) rfl (fun ls hl => ?_)
    have hLx := lvS_wSt hL hC (by (first | ((try clear hne9); (try clear hj35_0); (try clear hj67_0); (try clear hj93_0); (try clear ho9); (try clear htu); show_term (have zq347 : True := trivial; omega)) | show_term (have zq347 : True := trivial; omega))) ht hu ho
    have pIA : IA μd u1.toNat x93_0.toNat kp vp lb := by rw [hx_p_]; exact IA_P hLx (by (first | ((try clear hne9); (try clear hj35_0); (try clear hj67_0); (try clear hj93_0); (try clear ho9); (try clear htu); show_term (have zq348 : True := trivial; omega)) | show_term (have zq348 : True := trivial; omega))) hep
    refine lv_iload hx hb dX10_walks_171 (lv_at hl 1 rfl) ?_
    refine fz_if_eq (tgt := 194) (by decide) hx hb dX10_walks_173 (by decide) (fun c173_ => ?_) (fun h9 => absurd h9 (by decide))
    refine lv_iload hx hb dX10_walks_194 (lv_at hl 6 rfl) ?_
    refine lv_iconst (v := iZ 1) hx hb dX10_walks_196 rfl ?_
    refine fz_icmp_ne (tgt := 211) (by decide) (by decide) hx hb dX10_walks_197 (by decide) (fun c197_ => ?_) (fun h9 => absurd h9 (by decide))
    refine lv_iload hx hb dX10_walks_211 (lv_at hl 6 rfl) ?_
    refine lv_iconst (v := iZ 2) hx hb dX10_walks_213 rfl ?_
    refine fz_icmp_ne (tgt := 237) (by decide) (by decide) hx hb dX10_walks_214 (by decide) (fun c214_ => ?_) (fun h9 => absurd h9 (by decide))
    refine lv_iload hx hb dX10_walks_237 (lv_at hl 6 rfl) ?_
    refine lv_iconst (v := iZ 3) hx hb dX10_walks_239 rfl ?_
    refine fz_icmp_ne (tgt := 262) (by decide) (by decide) hx hb dX10_walks_240 (by decide) (fun h9 => absurd h9 (by decide)) (fun c240_ => ?_)
    refine lv_aload_n hx hb dX10_walks_243 rfl (lv_at hl 13 rfl) ?_
    refine lv_iload hx hb dX10_walks_244 (lv_at hl 2 rfl) ?_
    refine lv_iload hx hb dX10_walks_246 (lv_at hl 4 rfl) ?_
    refine lv_iload hx hb dX10_walks_248 (lv_at hl 3 rfl) ?_
    refine lv_aload_n hx hb dX10_walks_250 rfl (lv_at hl 13 rfl) ?_
    refine fz_get (D := (dC, dI)) (ci := 10) (v := .ref (h0 + 722)) (C := RX10) (T := TX10) (N := 53) hx hb hts inG10 hown hK hP (k := 0) (by decide) (F := mF h0) mE_obj rfl 29 (by decide) (hts _ k1195) (fun _ h9 => h9) rfl dX10_walks_251 ?_
    refine lv_iload_n hx hb dX10_walks_254 rfl (lv_at hl 12 rfl) ?_
    refine fz_ald (k := 722) (n := 14) (k2 := (723 + (n).toNat)) hx hb hK hP 2 rfl (by decide) mE_rowS rfl ⟨by (first | ((try clear hne9); (try clear hj35_0); (try clear hj67_0); (try clear hj93_0); (try clear ho9); (try clear htu); show_term (have zq349 : True := trivial; omega)) | show_term (have zq349 : True := trivial; omega)), by (first | ((try clear hne9); (try clear hj35_0); (try clear hj67_0); (try clear hj93_0); (try clear ho9); (try clear htu); show_term (have zq350 : True := trivial; omega)) | show_term (have zq350 : True := trivial; omega))⟩ (by decide) (if_pos (by (first | ((try clear hne9); (try clear hj35_0); (try clear hj67_0); (try clear hj93_0); (try clear ho9); (try clear htu); show_term (have zq351 : True := trivial; omega)) | show_term (have zq351 : True := trivial; omega)))) dX10_walks_255 ?_
    refine lv_iload_n hx hb dX10_walks_256 rfl (lv_at hl 10 rfl) ?_
    refine lv_iload_n hx hb dX10_walks_257 rfl (lv_at hl 11 rfl) ?_
    refine va_calli (va_runV (As := [.int (iZ (u1)), .int (iZ (x93_0)), .int (iZ (t)), .ref (h0 + (723 + (n).toNat)), .int (iZ (i)), .int (iZ (o1))]) (rest := []) ⟨hx, hb, hml, hown, hts⟩ (m_fusesRow l dC dI cI cZ cII cIII h0 H.size μd (u1) (x93_0) (t) ((723 + n.toNat)) (i) (o1) (kp) (vp) (lb) (wS) (ps) (by first | assumption | ((try clear hne9); (try clear hj35_0); (try clear hj67_0); (try clear hj93_0); (try clear ho9); (try clear htu); show_term (have zq352 : True := trivial; omega)) | show_term (have zq352 : True := trivial; omega) | exact ⟨by (first | ((try clear hne9); (try clear hj35_0); (try clear hj67_0); (try clear hj93_0); (try clear ho9); (try clear htu); show_term (have zq353 : True := trivial; omega)) | show_term (have zq353 : True := trivial; omega)), by (first | ((try clear hne9); (try clear hj35_0); (try clear hj67_0); (try clear hj93_0); (try clear ho9); (try clear htu); show_term (have zq354 : True := trivial; omega)) | show_term (have zq354 : True := trivial; omega))⟩) (by first | assumption | ((try clear hne9); (try clear hj35_0); (try clear hj67_0); (try clear hj93_0); (try clear ho9); (try clear htu); show_term (have zq355 : True := trivial; omega)) | show_term (have zq355 : True := trivial; omega) | exact ⟨by (first | ((try clear hne9); (try clear hj35_0); (try clear hj67_0); (try clear hj93_0); (try clear ho9); (try clear htu); show_term (have zq356 : True := trivial; omega)) | show_term (have zq356 : True := trivial; omega)), by (first | ((try clear hne9); (try clear hj35_0); (try clear hj67_0); (try clear hj93_0); (try clear ho9); (try clear htu); show_term (have zq357 : True := trivial; omega)) | show_term (have zq357 : True := trivial; omega))⟩) (by (first | ((try clear hne9); (try clear hj35_0); (try clear hj67_0); (try clear hj93_0); (try clear ho9); (try clear htu); show_term (have zq358 : True := trivial; omega)) | show_term (have zq358 : True := trivial; omega))) (by exact pIA) (by exact pF) (by exact Or.inl ⟨by (first | ((try clear hne9); (try clear hj35_0); (try clear hj67_0); (try clear hj93_0); (try clear ho9); (try clear htu); show_term (have zq359 : True := trivial; omega)) | show_term (have zq359 : True := trivial; omega)), by (first | ((try clear hne9); (try clear hj35_0); (try clear hj67_0); (try clear hj93_0); (try clear ho9); (try clear htu); show_term (have zq360 : True := trivial; omega)) | show_term (have zq360 : True := trivial; omega))⟩) (by exact hLx.2.2.2.2.1) (by exact hLx.2.2.2.2.2.2.1) (by exact hps) (by exact hwS) (by (first | ((try clear hne9); (try clear hj35_0); (try clear hj67_0); (try clear hj93_0); (try clear ho9); (try clear htu); show_term (have zq361 : True := trivial; omega)) | show_term (have zq361 : True := trivial; omega))) (by exact hi) (by (first | ((try clear hne9); (try clear hj35_0); (try clear hj67_0); (try clear hj93_0); (try clear ho9); (try clear htu); show_term (have zq362 : True := trivial; omega)) | show_term (have zq362 : True := trivial; omega))) (by (first | ((try clear hne9); (try clear hj35_0); (try clear hj67_0); (try clear hj93_0); (try clear ho9); (try clear htu); show_term (have zq363 : True := trivial; omega)) | show_term (have zq363 : True := trivial; omega))) (by exact hnx) (by intro h; have h9 := wSt_cap hC hcap h; rw [rN_in, hnN] at h9; show_term (have zq364 : True := trivial; omega))) (cwV 6 hts (gV_G k1468 k1470 ks_yX10_fusesRow k13 k1471) rfl rfl rfl (by decide +kernel) ⟨by show 24 + 1 ≤ _; show_term (have zq365 : True := trivial; omega), by show 8 + (11 + 11) + (740) ≤ _; show_term (have zq366 : True := trivial; omega)⟩) ⟨fun a U g mk q => by obtain ⟨q0, q1, qP, qK⟩ := q; exact ⟨q0, q1, qP, va_K.moved (u := U) (U := U.calling g mk a) (Vm.Alike.refl U.vm) qK⟩, va_recv hK hP (ci := 10) (q0 := 0) rfl ((fw_get (by decide)).trans (by rw [mE_obj]; rfl)), fun U hU hW => ⟨rfl, by rw [hU], by rw [hU]; exact hP, va_K.moved hW.alike hK⟩⟩ rfl rfl hl.1 rfl (lv_room (Nat.le_of_ble_eq_true rfl)) dX10_walks_258 ⟨hRc, hRs⟩) hS (fun q _ h => fA_le hS.1 q h) (fA_le hS.1) (fun r9 u9 t9 H1 locs ht9 hvm9 hw9 hB9 hz9 hk9 hS => ?_)
    obtain ⟨μr, rr9⟩ := u9
    obtain ⟨hP, -⟩ := hB9
    rw [ht9] at hP
    generalize H1 = H at hP hS ⊢
    obtain ⟨e9, hw9⟩ := hw9
    have e9 : r9 = iZ rr9 := e9
    subst e9
    simp only at hP hw9
    have hμr := hw9; clear hw9
    subst hk3
    have hN := wSt_it0 hC (by (first | ((try clear hne9); (try clear hj35_0); (try clear hj67_0); (try clear hj93_0); (try clear ho9); (try clear htu); show_term (have zq367 : True := trivial; omega)) | show_term (have zq367 : True := trivial; omega))) (layO_fu hμr hnN) y
    have hLn := lvS_wSt hL hN (by (first | ((try clear hne9); (try clear hj35_0); (try clear hj67_0); (try clear hj93_0); (try clear ho9); (try clear htu); show_term (have zq368 : True := trivial; omega)) | show_term (have zq368 : True := trivial; omega))) ht hu ho
    have pIn : IA μr u1.toNat x93_0.toNat 4 vp lb := by rw [hx_p_]; exact IA_P hLn (by (first | ((try clear hne9); (try clear hj35_0); (try clear hj67_0); (try clear hj93_0); (try clear ho9); (try clear htu); show_term (have zq369 : True := trivial; omega)) | show_term (have zq369 : True := trivial; omega))) hep
    refine lv_pop hx hb dX10_walks_261 rfl ?_
    refine lv_iload hx hb dX10_walks_262 (lv_at hl 6 rfl) ?_
    refine lv_iconst (v := iZ 4) hx hb dX10_walks_264 rfl ?_
    refine fz_icmp_ne (tgt := 277) (by decide) (by decide) hx hb dX10_walks_265 (by decide) (fun c265_ => ?_) (fun h9 => absurd h9 (by decide))
    refine lv_iload hx hb dX10_walks_277 (lv_at hl 6 rfl) ?_
    refine lv_iconst (v := iZ 5) hx hb dX10_walks_279 rfl ?_
    refine fz_icmp_ne (tgt := 292) (by decide) (by decide) hx hb dX10_walks_280 (by decide) (fun c280_ => ?_) (fun h9 => absurd h9 (by decide))
    refine lv_iload hx hb dX10_walks_292 (lv_at hl 7 rfl) ?_
    refine lv_iload hx hb dX10_walks_294 (lv_at hl 6 rfl) ?_
    refine lv_iconst (v := iZ 3) hx hb dX10_walks_296 rfl ?_
    refine fz_icmp_gt (tgt := 320) (by decide) (by decide) hx hb dX10_walks_297 (by decide) (fun h9 => absurd h9 (by decide)) (fun c297_ => ?_)
    refine lv_iload hx hb dX10_walks_300 (lv_at hl 6 rfl) ?_
    refine lv_iconst (v := iZ 2) hx hb dX10_walks_302 rfl ?_
    refine fz_icmp_ne (tgt := 324) (by decide) (by decide) hx hb dX10_walks_303 (by decide) (fun c303_ => ?_) (fun h9 => absurd h9 (by decide))
    refine lv_iconst (v := iZ 0) hx hb dX10_walks_324 rfl ?_
    refine lv_iand hx hb dX10_walks_325 ?_
    refine lv_topi (fun x9 ex9 => ?_)
    obtain ⟨z19, rfl, hz19⟩ := iZ_ex x9
    have ez19 := ex9; clear ex9
    refine lv_istore (lv' := [(7, .int (iZ (z19))), (5, .int (iZ (0))), (13, .int (iZ (0))), (12, .int (iZ (u1))), (11, .int (iZ (t))), (10, .int (iZ (x93_0))), (9, .int (iZ (x67_0))), (8, .int (iZ (3))), (6, .int (iZ (y))), (4, .int (iZ (j))), (3, .int (iZ (i))), (2, .int (iZ (o1))), (1, .int (iZ (n))), (0, .ref h0)]) hx hb dX10_walks_326 hl (by decide) rfl (fun ls hl => ?_)
    refine lv_iload_n hx hb dX10_walks_328 rfl (lv_at hl 10 rfl) ?_
    refine lv_iload hx hb dX10_walks_329 (lv_at hl 7 rfl) ?_
    refine lv_iconst (v := iZ 3) hx hb dX10_walks_331 rfl ?_
    refine fz_icmp_ne (tgt := 346) (by decide) (by decide) hx hb dX10_walks_332 (by decide) (fun h9 => absurd h9 (by decide)) (fun c332_ => ?_)
    refine lv_aload_n hx hb dX10_walks_335 rfl (lv_at hl 13 rfl) ?_
    refine lv_iload hx hb dX10_walks_336 (lv_at hl 3 rfl) ?_
    refine lv_iload hx hb dX10_walks_338 (lv_at hl 5 rfl) ?_
    refine va_calli (va_runV (As := [.int (iZ (u1)), .int (iZ (x93_0))]) (rest := [.int (iZ (i))]) ⟨hx, hb, hml, hown, hts⟩ (m_itemsIn l dC dI cI cZ cII cIII h0 H.size μr (u1) (x93_0) (lb) (by first | assumption | ((try clear hne9); (try clear hj35_0); (try clear hj67_0); (try clear hj93_0); (try clear ho9); (try clear htu); show_term (have zq370 : True := trivial; omega)) | show_term (have zq370 : True := trivial; omega) | exact ⟨by (first | ((try clear hne9); (try clear hj35_0); (try clear hj67_0); (try clear hj93_0); (try clear ho9); (try clear htu); show_term (have zq371 : True := trivial; omega)) | show_term (have zq371 : True := trivial; omega)), by (first | ((try clear hne9); (try clear hj35_0); (try clear hj67_0); (try clear hj93_0); (try clear ho9); (try clear htu); show_term (have zq372 : True := trivial; omega)) | show_term (have zq372 : True := trivial; omega))⟩) (by (first | ((try clear hne9); (try clear hj35_0); (try clear hj67_0); (try clear hj93_0); (try clear ho9); (try clear htu); show_term (have zq373 : True := trivial; omega)) | show_term (have zq373 : True := trivial; omega))) (by exact pIn.2.2.1) (by exact pIn.2.2.2)) (cwV 2 hts (gV_G k1400 k1402 ks_yX10_itemsIn k13 k1403) rfl rfl rfl (by decide +kernel) ⟨by show 1 + 1 ≤ _; show_term (have zq374 : True := trivial; omega), by show 8 + (5 + 11) + (14) ≤ _; show_term (have zq375 : True := trivial; omega)⟩) ⟨fun a U g mk q => by obtain ⟨q0, q1, qP, qK⟩ := q; exact ⟨q0, q1, qP, va_K.moved (u := U) (U := U.calling g mk a) (Vm.Alike.refl U.vm) qK⟩, va_recv hK hP (ci := 10) (q0 := 0) rfl ((fw_get (by decide)).trans (by rw [mE_obj]; rfl)), fun U hU hW => ⟨rfl, by rw [hU], by rw [hU]; exact hP, va_K.moved hW.alike hK⟩⟩ rfl rfl hl.1 rfl (lv_room (Nat.le_of_ble_eq_true rfl)) dX10_walks_340 ⟨hRc, hRs⟩) hS (fun q _ h => fA_le hS.1 q h) (fA_le hS.1) (fun r9 u9 t9 H1 locs ht9 hvm9 hw9 hB9 hz9 hk9 hS => ?_)
    obtain ⟨μ20, ri⟩ := u9
    obtain ⟨hP, -⟩ := hB9
    rw [ht9] at hP
    generalize H1 = H at hP hS ⊢
    obtain ⟨e9, hw9⟩ := hw9
    have e9 : r9 = iZ ri := e9
    subst e9
    simp only at hP hw9
    have hμ20 := hw9; clear hw9
    rw [hμ20.1] at hP; have hμ20 := hμ20.2
    have hri : ri = rI lb := hμ20
    refine lv_goto (tgt := 357) hx hb dX10_walks_343 (by decide) ?_
    refine lv_iadd hx hb dX10_walks_357 ?_
    refine lv_topi (fun x9 ex9 => ?_)
    obtain rfl : x9 = iZ (i + ri) := ex9.trans (iZ_add _ _)
    refine lv_istore_n (lv' := [(3, .int (iZ (i + ri))), (7, .int (iZ (z19))), (5, .int (iZ (0))), (13, .int (iZ (0))), (12, .int (iZ (u1))), (11, .int (iZ (t))), (10, .int (iZ (x93_0))), (9, .int (iZ (x67_0))), (8, .int (iZ (3))), (6, .int (iZ (y))), (4, .int (iZ (j))), (2, .int (iZ (o1))), (1, .int (iZ (n))), (0, .ref h0)]) hx hb dX10_walks_358 rfl hl (by decide) rfl (fun ls hl => ?_)
    refine lv_iload hx hb dX10_walks_359 (lv_at hl 10 rfl) ?_
    refine lv_iload hx hb dX10_walks_361 (lv_at hl 8 rfl) ?_
    refine lv_iconst (v := iZ 2) hx hb dX10_walks_363 rfl ?_
    refine fz_icmp_ne (tgt := 378) (by decide) (by decide) hx hb dX10_walks_364 (by decide) (fun c364_ => ?_) (fun h9 => absurd h9 (by decide))
    refine lv_iload hx hb dX10_walks_378 (lv_at hl 8 rfl) ?_
    refine lv_iconst (v := iZ 4) hx hb dX10_walks_380 rfl ?_
    refine fz_icmp_ne (tgt := 388) (by decide) (by decide) hx hb dX10_walks_381 (by decide) (fun c381_ => ?_) (fun h9 => absurd h9 (by decide))
    refine lv_iconst (v := iZ 1) hx hb dX10_walks_388 rfl ?_
    refine lv_iadd hx hb dX10_walks_389 ?_
    refine lv_topi (fun x9 ex9 => ?_)
    obtain rfl : x9 = iZ (j + 1) := ex9.trans (iZ_add _ _)
    refine lv_istore (lv' := [(4, .int (iZ (j + 1))), (3, .int (iZ (i + ri))), (7, .int (iZ (z19))), (5, .int (iZ (0))), (13, .int (iZ (0))), (12, .int (iZ (u1))), (11, .int (iZ (t))), (10, .int (iZ (x93_0))), (9, .int (iZ (x67_0))), (8, .int (iZ (3))), (6, .int (iZ (y))), (2, .int (iZ (o1))), (1, .int (iZ (n))), (0, .ref h0)]) hx hb dX10_walks_390 hl (by decide) rfl (fun ls hl => ?_)
    refine lv_goto (tgt := 14) hx hb dX10_walks_392 (by decide) ?_
    exact ih (i + ri) (j + 1) (0) (y) (z19) μr H locs ls (by
                rw [show (i + ri).toNat = i.toNat + rI lb by (first | ((try clear hne9); (try clear hj35_0); (try clear hj67_0); (try clear hj93_0); (try clear ho9); (try clear htu); show_term (have zq376 : True := trivial; omega)) | show_term (have zq376 : True := trivial; omega)), show (j + 1).toNat = j.toNat + 1 by (first | ((try clear hne9); (try clear hj35_0); (try clear hj67_0); (try clear hj93_0); (try clear ho9); (try clear htu); show_term (have zq377 : True := trivial; omega)) | show_term (have zq377 : True := trivial; omega)), pS, rdrop_add]
                rw [show (0 : Int).toNat = 0 from rfl, wk_01]
                exact hN) (by (first | ((try clear hne9); (try clear hj35_0); (try clear hj67_0); (try clear hj93_0); (try clear ho9); (try clear htu); show_term (have zq378 : True := trivial; omega)) | show_term (have zq378 : True := trivial; omega))) (by (first | ((try clear hne9); (try clear hj35_0); (try clear hj67_0); (try clear hj93_0); (try clear ho9); (try clear htu); show_term (have zq379 : True := trivial; omega)) | show_term (have zq379 : True := trivial; omega))) (by first | exact Or.inl rfl | exact Or.inr (Or.inl rfl) | exact Or.inr (Or.inr rfl)) (by
                rw [show (i + ri).toNat = i.toNat + rI lb by (first | ((try clear hne9); (try clear hj35_0); (try clear hj67_0); (try clear hj93_0); (try clear ho9); (try clear htu); show_term (have zq380 : True := trivial; omega)) | show_term (have zq380 : True := trivial; omega)), show (j + 1).toNat = j.toNat + 1 by (first | ((try clear hne9); (try clear hj35_0); (try clear hj67_0); (try clear hj93_0); (try clear ho9); (try clear htu); show_term (have zq381 : True := trivial; omega)) | show_term (have zq381 : True := trivial; omega)), pS, rdrop_add]
                obtain ⟨a1_, a2_, a3_, a4_, a5_⟩ := al_is (Or.inr rfl) hmn
                exact alI_and0 hz19 ez19 hal (a3_ hy9)) (by (first | ((try clear hne9); (try clear hj35_0); (try clear hj67_0); (try clear hj93_0); (try clear ho9); (try clear htu); show_term (have zq382 : True := trivial; omega)) | show_term (have zq382 : True := trivial; omega))) hP hS (lv_sub hl [2, 10, 3, 0, 1, 11, 12, 13] rfl)
  · clear ho9
    refine lv_iload hx hb dX10_walks_111 (lv_at hl 4 rfl) ?_
    refine lv_iconst (v := iZ 5) hx hb dX10_walks_113 rfl ?_
    refine fz_icmp_eq (tgt := 137) (by decide) (by decide) hx hb dX10_walks_114 (by decide) (fun h9 => absurd h9 (by decide)) (fun c114_ => ?_)
    refine lv_iload hx hb dX10_walks_117 (lv_at hl 4 rfl) ?_
    refine lv_iconst (v := iZ 4) hx hb dX10_walks_119 rfl ?_
    refine fz_icmp_ne (tgt := 141) (by decide) (by decide) hx hb dX10_walks_120 (by decide) (fun c120_ => ?_) (fun h9 => absurd h9 (by decide))
    refine lv_iconst (v := iZ 0) hx hb dX10_walks_141 rfl ?_
    refine lv_istore (lv' := [(13, .int (iZ (0))), (12, .int (iZ (u1))), (11, .int (iZ (t))), (10, .int (iZ (x93_0))), (9, .int (iZ (x67_0))), (8, .int (iZ (3))), (7, .int (iZ (al))), (6, .int (iZ (y))), (5, .int (iZ (5))), (4, .int (iZ (j))), (3, .int (iZ (i))), (2, .int (iZ (o1))), (1, .int (iZ (n))), (0, .ref h0)]) hx hb dX10_walks_142 hl (by decide) rfl (fun ls hl => ?_)
    refine lv_iload hx hb dX10_walks_144 (lv_at hl 8 rfl) ?_
    refine fz_if_le (tgt := 171) (by decide) hx hb dX10_walks_146 (by decide) (fun h9 => absurd h9 (by decide)) (fun c146_ => ?_)
    refine lv_iload hx hb dX10_walks_149 (lv_at hl 0 rfl) ?_
    refine fz_if_eq (tgt := 161) (by decide) hx hb dX10_walks_151 (by decide) (fun c151_ => ?_) (fun h9 => absurd h9 (by decide))
    refine lv_aload_n hx hb dX10_walks_161 rfl (lv_at hl 13 rfl) ?_
    refine lv_iload_n hx hb dX10_walks_162 rfl (lv_at hl 11 rfl) ?_
    refine lv_iload hx hb dX10_walks_163 (lv_at hl 7 rfl) ?_
    refine va_callv (va_runV (As := [.int (iZ (o1)), .int (iZ (y))]) (rest := []) ⟨hx, hb, hml, hown, hts⟩ (m_closes l dC dI cI cZ cII cIII h0 H.size μ (o1) (y) (by first | assumption | ((try clear hne9); (try clear hj35_0); (try clear hj67_0); (try clear hj93_0); (try clear ho9); (try clear htu); show_term (have zq383 : True := trivial; omega)) | show_term (have zq383 : True := trivial; omega) | exact ⟨by (first | ((try clear hne9); (try clear hj35_0); (try clear hj67_0); (try clear hj93_0); (try clear ho9); (try clear htu); show_term (have zq384 : True := trivial; omega)) | show_term (have zq384 : True := trivial; omega)), by (first | ((try clear hne9); (try clear hj35_0); (try clear hj67_0); (try clear hj93_0); (try clear ho9); (try clear htu); show_term (have zq385 : True := trivial; omega)) | show_term (have zq385 : True := trivial; omega))⟩) (by intro h; exact (wSt_cap hwc hcap h).2.2 (by (first | ((try clear hne9); (try clear hj35_0); (try clear hj67_0); (try clear hj93_0); (try clear ho9); (try clear htu); show_term (have zq386 : True := trivial; omega)) | show_term (have zq386 : True := trivial; omega))))) (cwV 2 hts (gV_G k1420 k1422 ks_yX10_closes k13 k1423) rfl rfl rfl (by decide +kernel) ⟨by show 1 + 1 ≤ _; show_term (have zq387 : True := trivial; omega), by show 8 + (3 + 11) + (14) ≤ _; show_term (have zq388 : True := trivial; omega)⟩) ⟨fun a U g mk q => by obtain ⟨q0, q1, qP, qK⟩ := q; exact ⟨q0, q1, qP, va_K.moved (u := U) (U := U.calling g mk a) (Vm.Alike.refl U.vm) qK⟩, va_recv hK hP (ci := 10) (q0 := 0) rfl ((fw_get (by decide)).trans (by rw [mE_obj]; rfl)), fun U hU hW => ⟨rfl, by rw [hU], by rw [hU]; exact hP, va_K.moved hW.alike hK⟩⟩ rfl rfl hl.1 rfl (lv_room (Nat.le_of_ble_eq_true rfl)) dX10_walks_165 ⟨hRc, hRs⟩) hS (fun q _ h => fA_le hS.1 q h) (fA_le hS.1) (fun u9 t9 H1 locs ht9 hvm9 hw9 hB9 hz9 hk9 hS => ?_)
    obtain ⟨hP, -⟩ := hB9
    rw [ht9] at hP
    generalize H1 = H at hP hS ⊢
    obtain ⟨μd, eμd⟩ : ∃ x : va_M, x = u9 := ⟨_, rfl⟩
    rw [← eμd] at hP hw9
    have hμd := hw9; clear hw9
    have hC := wSt_close hwc (by (first | ((try clear hne9); (try clear hj35_0); (try clear hj67_0); (try clear hj93_0); (try clear ho9); (try clear htu); show_term (have zq389 : True := trivial; omega)) | show_term (have zq389 : True := trivial; omega))) (by (first | ((try clear hne9); (try clear hj35_0); (try clear hj67_0); (try clear hj93_0); (try clear ho9); (try clear htu); show_term (have zq390 : True := trivial; omega)) | show_term (have zq390 : True := trivial; omega))) hμd y
    refine lv_iconst (v := iZ 0) hx hb dX10_walks_168 rfl ?_
    refine lv_istore (lv' := [(5, .int (iZ (0))), (13, .int (iZ (0))), (12, .int (iZ (u1))), (11, .int (iZ (t))), (10, .int (iZ (x93_0))), (9, .int (iZ (x67_0))), (8, .int (iZ (3))), (7, .int (iZ (al))), (6, .int (iZ (y))), (4, .int (iZ (j))), (3, .int (iZ (i))), (2, .int (iZ (o1))), (1, .int (iZ (n))), (0, .ref h0)]) hx hb dX10_walks_169 hl (by decide) rfl (fun ls hl => ?_)
    have hLx := lvS_wSt hL hC (by (first | ((try clear hne9); (try clear hj35_0); (try clear hj67_0); (try clear hj93_0); (try clear ho9); (try clear htu); show_term (have zq391 : True := trivial; omega)) | show_term (have zq391 : True := trivial; omega))) ht hu ho
    have pIA : IA μd u1.toNat x93_0.toNat kp vp lb := by rw [hx_p_]; exact IA_P hLx (by (first | ((try clear hne9); (try clear hj35_0); (try clear hj67_0); (try clear hj93_0); (try clear ho9); (try clear htu); show_term (have zq392 : True := trivial; omega)) | show_term (have zq392 : True := trivial; omega))) hep
    refine lv_iload hx hb dX10_walks_171 (lv_at hl 1 rfl) ?_
    refine fz_if_eq (tgt := 194) (by decide) hx hb dX10_walks_173 (by decide) (fun c173_ => ?_) (fun h9 => absurd h9 (by decide))
    refine lv_iload hx hb dX10_walks_194 (lv_at hl 6 rfl) ?_
    refine lv_iconst (v := iZ 1) hx hb dX10_walks_196 rfl ?_
    refine fz_icmp_ne (tgt := 211) (by decide) (by decide) hx hb dX10_walks_197 (by decide) (fun c197_ => ?_) (fun h9 => absurd h9 (by decide))
    refine lv_iload hx hb dX10_walks_211 (lv_at hl 6 rfl) ?_
    refine lv_iconst (v := iZ 2) hx hb dX10_walks_213 rfl ?_
    refine fz_icmp_ne (tgt := 237) (by decide) (by decide) hx hb dX10_walks_214 (by decide) (fun c214_ => ?_) (fun h9 => absurd h9 (by decide))
    refine lv_iload hx hb dX10_walks_237 (lv_at hl 6 rfl) ?_
    refine lv_iconst (v := iZ 3) hx hb dX10_walks_239 rfl ?_
    refine fz_icmp_ne (tgt := 262) (by decide) (by decide) hx hb dX10_walks_240 (by decide) (fun h9 => absurd h9 (by decide)) (fun c240_ => ?_)
    refine lv_aload_n hx hb dX10_walks_243 rfl (lv_at hl 13 rfl) ?_
    refine lv_iload hx hb dX10_walks_244 (lv_at hl 2 rfl) ?_
    refine lv_iload hx hb dX10_walks_246 (lv_at hl 4 rfl) ?_
    refine lv_iload hx hb dX10_walks_248 (lv_at hl 3 rfl) ?_
    refine lv_aload_n hx hb dX10_walks_250 rfl (lv_at hl 13 rfl) ?_
    refine fz_get (D := (dC, dI)) (ci := 10) (v := .ref (h0 + 722)) (C := RX10) (T := TX10) (N := 53) hx hb hts inG10 hown hK hP (k := 0) (by decide) (F := mF h0) mE_obj rfl 29 (by decide) (hts _ k1195) (fun _ h9 => h9) rfl dX10_walks_251 ?_
    refine lv_iload_n hx hb dX10_walks_254 rfl (lv_at hl 12 rfl) ?_
    refine fz_ald (k := 722) (n := 14) (k2 := (723 + (n).toNat)) hx hb hK hP 2 rfl (by decide) mE_rowS rfl ⟨by (first | ((try clear hne9); (try clear hj35_0); (try clear hj67_0); (try clear hj93_0); (try clear ho9); (try clear htu); show_term (have zq393 : True := trivial; omega)) | show_term (have zq393 : True := trivial; omega)), by (first | ((try clear hne9); (try clear hj35_0); (try clear hj67_0); (try clear hj93_0); (try clear ho9); (try clear htu); show_term (have zq394 : True := trivial; omega)) | show_term (have zq394 : True := trivial; omega))⟩ (by decide) (if_pos (by (first | ((try clear hne9); (try clear hj35_0); (try clear hj67_0); (try clear hj93_0); (try clear ho9); (try clear htu); show_term (have zq395 : True := trivial; omega)) | show_term (have zq395 : True := trivial; omega)))) dX10_walks_255 ?_
    refine lv_iload_n hx hb dX10_walks_256 rfl (lv_at hl 10 rfl) ?_
    refine lv_iload_n hx hb dX10_walks_257 rfl (lv_at hl 11 rfl) ?_
    refine va_calli (va_runV (As := [.int (iZ (u1)), .int (iZ (x93_0)), .int (iZ (t)), .ref (h0 + (723 + (n).toNat)), .int (iZ (i)), .int (iZ (o1))]) (rest := []) ⟨hx, hb, hml, hown, hts⟩ (m_fusesRow l dC dI cI cZ cII cIII h0 H.size μd (u1) (x93_0) (t) ((723 + n.toNat)) (i) (o1) (kp) (vp) (lb) (wS) (ps) (by first | assumption | ((try clear hne9); (try clear hj35_0); (try clear hj67_0); (try clear hj93_0); (try clear ho9); (try clear htu); show_term (have zq396 : True := trivial; omega)) | show_term (have zq396 : True := trivial; omega) | exact ⟨by (first | ((try clear hne9); (try clear hj35_0); (try clear hj67_0); (try clear hj93_0); (try clear ho9); (try clear htu); show_term (have zq397 : True := trivial; omega)) | show_term (have zq397 : True := trivial; omega)), by (first | ((try clear hne9); (try clear hj35_0); (try clear hj67_0); (try clear hj93_0); (try clear ho9); (try clear htu); show_term (have zq398 : True := trivial; omega)) | show_term (have zq398 : True := trivial; omega))⟩) (by first | assumption | ((try clear hne9); (try clear hj35_0); (try clear hj67_0); (try clear hj93_0); (try clear ho9); (try clear htu); show_term (have zq399 : True := trivial; omega)) | show_term (have zq399 : True := trivial; omega) | exact ⟨by (first | ((try clear hne9); (try clear hj35_0); (try clear hj67_0); (try clear hj93_0); (try clear ho9); (try clear htu); show_term (have zq400 : True := trivial; omega)) | show_term (have zq400 : True := trivial; omega)), by (first | ((try clear hne9); (try clear hj35_0); (try clear hj67_0); (try clear hj93_0); (try clear ho9); (try clear htu); show_term (have zq401 : True := trivial; omega)) | show_term (have zq401 : True := trivial; omega))⟩) (by (first | ((try clear hne9); (try clear hj35_0); (try clear hj67_0); (try clear hj93_0); (try clear ho9); (try clear htu); show_term (have zq402 : True := trivial; omega)) | show_term (have zq402 : True := trivial; omega))) (by exact pIA) (by exact pF) (by exact Or.inl ⟨by (first | ((try clear hne9); (try clear hj35_0); (try clear hj67_0); (try clear hj93_0); (try clear ho9); (try clear htu); show_term (have zq403 : True := trivial; omega)) | show_term (have zq403 : True := trivial; omega)), by (first | ((try clear hne9); (try clear hj35_0); (try clear hj67_0); (try clear hj93_0); (try clear ho9); (try clear htu); show_term (have zq404 : True := trivial; omega)) | show_term (have zq404 : True := trivial; omega))⟩) (by exact hLx.2.2.2.2.1) (by exact hLx.2.2.2.2.2.2.1) (by exact hps) (by exact hwS) (by (first | ((try clear hne9); (try clear hj35_0); (try clear hj67_0); (try clear hj93_0); (try clear ho9); (try clear htu); show_term (have zq405 : True := trivial; omega)) | show_term (have zq405 : True := trivial; omega))) (by exact hi) (by (first | ((try clear hne9); (try clear hj35_0); (try clear hj67_0); (try clear hj93_0); (try clear ho9); (try clear htu); show_term (have zq406 : True := trivial; omega)) | show_term (have zq406 : True := trivial; omega))) (by (first | ((try clear hne9); (try clear hj35_0); (try clear hj67_0); (try clear hj93_0); (try clear ho9); (try clear htu); show_term (have zq407 : True := trivial; omega)) | show_term (have zq407 : True := trivial; omega))) (by exact hnx) (by intro h; have h9 := wSt_cap hC hcap h; rw [rN_in, hnN] at h9; show_term (have zq408 : True := trivial; omega))) (cwV 6 hts (gV_G k1468 k1470 ks_yX10_fusesRow k13 k1471) rfl rfl rfl (by decide +kernel) ⟨by show 24 + 1 ≤ _; show_term (have zq409 : True := trivial; omega), by show 8 + (11 + 11) + (740) ≤ _; show_term (have zq410 : True := trivial; omega)⟩) ⟨fun a U g mk q => by obtain ⟨q0, q1, qP, qK⟩ := q; exact ⟨q0, q1, qP, va_K.moved (u := U) (U := U.calling g mk a) (Vm.Alike.refl U.vm) qK⟩, va_recv hK hP (ci := 10) (q0 := 0) rfl ((fw_get (by decide)).trans (by rw [mE_obj]; rfl)), fun U hU hW => ⟨rfl, by rw [hU], by rw [hU]; exact hP, va_K.moved hW.alike hK⟩⟩ rfl rfl hl.1 rfl (lv_room (Nat.le_of_ble_eq_true rfl)) dX10_walks_258 ⟨hRc, hRs⟩) hS (fun q _ h => fA_le hS.1 q h) (fA_le hS.1) (fun r9 u9 t9 H1 locs ht9 hvm9 hw9 hB9 hz9 hk9 hS => ?_)
    obtain ⟨μr, rr9⟩ := u9
    obtain ⟨hP, -⟩ := hB9
    rw [ht9] at hP
    generalize H1 = H at hP hS ⊢
    obtain ⟨e9, hw9⟩ := hw9
    have e9 : r9 = iZ rr9 := e9
    subst e9
    simp only at hP hw9
    have hμr := hw9; clear hw9
    subst hk3
    have hN := wSt_it0 hC (by (first | ((try clear hne9); (try clear hj35_0); (try clear hj67_0); (try clear hj93_0); (try clear ho9); (try clear htu); show_term (have zq411 : True := trivial; omega)) | show_term (have zq411 : True := trivial; omega))) (layO_fu hμr hnN) y
    have hLn := lvS_wSt hL hN (by (first | ((try clear hne9); (try clear hj35_0); (try clear hj67_0); (try clear hj93_0); (try clear ho9); (try clear htu); show_term (have zq412 : True := trivial; omega)) | show_term (have zq412 : True := trivial; omega))) ht hu ho
    have pIn : IA μr u1.toNat x93_0.toNat 4 vp lb := by rw [hx_p_]; exact IA_P hLn (by (first | ((try clear hne9); (try clear hj35_0); (try clear hj67_0); (try clear hj93_0); (try clear ho9); (try clear htu); show_term (have zq413 : True := trivial; omega)) | show_term (have zq413 : True := trivial; omega))) hep
    refine lv_pop hx hb dX10_walks_261 rfl ?_
    refine lv_iload hx hb dX10_walks_262 (lv_at hl 6 rfl) ?_
    refine lv_iconst (v := iZ 4) hx hb dX10_walks_264 rfl ?_
    refine fz_icmp_ne (tgt := 277) (by decide) (by decide) hx hb dX10_walks_265 (by decide) (fun c265_ => ?_) (fun h9 => absurd h9 (by decide))
    refine lv_iload hx hb dX10_walks_277 (lv_at hl 6 rfl) ?_
    refine lv_iconst (v := iZ 5) hx hb dX10_walks_279 rfl ?_
    refine fz_icmp_ne (tgt := 292) (by decide) (by decide) hx hb dX10_walks_280 (by decide) (fun c280_ => ?_) (fun h9 => absurd h9 (by decide))
    refine lv_iload hx hb dX10_walks_292 (lv_at hl 7 rfl) ?_
    refine lv_iload hx hb dX10_walks_294 (lv_at hl 6 rfl) ?_
    refine lv_iconst (v := iZ 3) hx hb dX10_walks_296 rfl ?_
    refine fz_icmp_gt (tgt := 320) (by decide) (by decide) hx hb dX10_walks_297 (by decide) (fun h9 => absurd h9 (by decide)) (fun c297_ => ?_)
    refine lv_iload hx hb dX10_walks_300 (lv_at hl 6 rfl) ?_
    refine lv_iconst (v := iZ 2) hx hb dX10_walks_302 rfl ?_
    refine fz_icmp_ne (tgt := 324) (by decide) (by decide) hx hb dX10_walks_303 (by decide) (fun c303_ => ?_) (fun h9 => absurd h9 (by decide))
    refine lv_iconst (v := iZ 0) hx hb dX10_walks_324 rfl ?_
    refine lv_iand hx hb dX10_walks_325 ?_
    refine lv_topi (fun x9 ex9 => ?_)
    obtain ⟨z21, rfl, hz21⟩ := iZ_ex x9
    have ez21 := ex9; clear ex9
    refine lv_istore (lv' := [(7, .int (iZ (z21))), (5, .int (iZ (0))), (13, .int (iZ (0))), (12, .int (iZ (u1))), (11, .int (iZ (t))), (10, .int (iZ (x93_0))), (9, .int (iZ (x67_0))), (8, .int (iZ (3))), (6, .int (iZ (y))), (4, .int (iZ (j))), (3, .int (iZ (i))), (2, .int (iZ (o1))), (1, .int (iZ (n))), (0, .ref h0)]) hx hb dX10_walks_326 hl (by decide) rfl (fun ls hl => ?_)
    refine lv_iload_n hx hb dX10_walks_328 rfl (lv_at hl 10 rfl) ?_
    refine lv_iload hx hb dX10_walks_329 (lv_at hl 7 rfl) ?_
    refine lv_iconst (v := iZ 3) hx hb dX10_walks_331 rfl ?_
    refine fz_icmp_ne (tgt := 346) (by decide) (by decide) hx hb dX10_walks_332 (by decide) (fun h9 => absurd h9 (by decide)) (fun c332_ => ?_)
    refine lv_aload_n hx hb dX10_walks_335 rfl (lv_at hl 13 rfl) ?_
    refine lv_iload hx hb dX10_walks_336 (lv_at hl 3 rfl) ?_
    refine lv_iload hx hb dX10_walks_338 (lv_at hl 5 rfl) ?_
    refine va_calli (va_runV (As := [.int (iZ (u1)), .int (iZ (x93_0))]) (rest := [.int (iZ (i))]) ⟨hx, hb, hml, hown, hts⟩ (m_itemsIn l dC dI cI cZ cII cIII h0 H.size μr (u1) (x93_0) (lb) (by first | assumption | ((try clear hne9); (try clear hj35_0); (try clear hj67_0); (try clear hj93_0); (try clear ho9); (try clear htu); show_term (have zq414 : True := trivial; omega)) | show_term (have zq414 : True := trivial; omega) | exact ⟨by (first | ((try clear hne9); (try clear hj35_0); (try clear hj67_0); (try clear hj93_0); (try clear ho9); (try clear htu); show_term (have zq415 : True := trivial; omega)) | show_term (have zq415 : True := trivial; omega)), by (first | ((try clear hne9); (try clear hj35_0); (try clear hj67_0); (try clear hj93_0); (try clear ho9); (try clear htu); show_term (have zq416 : True := trivial; omega)) | show_term (have zq416 : True := trivial; omega))⟩) (by (first | ((try clear hne9); (try clear hj35_0); (try clear hj67_0); (try clear hj93_0); (try clear ho9); (try clear htu); show_term (have zq417 : True := trivial; omega)) | show_term (have zq417 : True := trivial; omega))) (by exact pIn.2.2.1) (by exact pIn.2.2.2)) (cwV 2 hts (gV_G k1400 k1402 ks_yX10_itemsIn k13 k1403) rfl rfl rfl (by decide +kernel) ⟨by show 1 + 1 ≤ _; show_term (have zq418 : True := trivial; omega), by show 8 + (5 + 11) + (14) ≤ _; show_term (have zq419 : True := trivial; omega)⟩) ⟨fun a U g mk q => by obtain ⟨q0, q1, qP, qK⟩ := q; exact ⟨q0, q1, qP, va_K.moved (u := U) (U := U.calling g mk a) (Vm.Alike.refl U.vm) qK⟩, va_recv hK hP (ci := 10) (q0 := 0) rfl ((fw_get (by decide)).trans (by rw [mE_obj]; rfl)), fun U hU hW => ⟨rfl, by rw [hU], by rw [hU]; exact hP, va_K.moved hW.alike hK⟩⟩ rfl rfl hl.1 rfl (lv_room (Nat.le_of_ble_eq_true rfl)) dX10_walks_340 ⟨hRc, hRs⟩) hS (fun q _ h => fA_le hS.1 q h) (fA_le hS.1) (fun r9 u9 t9 H1 locs ht9 hvm9 hw9 hB9 hz9 hk9 hS => ?_)
    obtain ⟨μ22, ri⟩ := u9
    obtain ⟨hP, -⟩ := hB9
    rw [ht9] at hP
    generalize H1 = H at hP hS ⊢
    obtain ⟨e9, hw9⟩ := hw9
    have e9 : r9 = iZ ri := e9
    subst e9
    simp only at hP hw9
    have hμ22 := hw9; clear hw9
    rw [hμ22.1] at hP; have hμ22 := hμ22.2
    have hri : ri = rI lb := hμ22
    refine lv_goto (tgt := 357) hx hb dX10_walks_343 (by decide) ?_
    refine lv_iadd hx hb dX10_walks_357 ?_
    refine lv_topi (fun x9 ex9 => ?_)
    obtain rfl : x9 = iZ (i + ri) := ex9.trans (iZ_add _ _)
    refine lv_istore_n (lv' := [(3, .int (iZ (i + ri))), (7, .int (iZ (z21))), (5, .int (iZ (0))), (13, .int (iZ (0))), (12, .int (iZ (u1))), (11, .int (iZ (t))), (10, .int (iZ (x93_0))), (9, .int (iZ (x67_0))), (8, .int (iZ (3))), (6, .int (iZ (y))), (4, .int (iZ (j))), (2, .int (iZ (o1))), (1, .int (iZ (n))), (0, .ref h0)]) hx hb dX10_walks_358 rfl hl (by decide) rfl (fun ls hl => ?_)
    refine lv_iload hx hb dX10_walks_359 (lv_at hl 10 rfl) ?_
    refine lv_iload hx hb dX10_walks_361 (lv_at hl 8 rfl) ?_
    refine lv_iconst (v := iZ 2) hx hb dX10_walks_363 rfl ?_
    refine fz_icmp_ne (tgt := 378) (by decide) (by decide) hx hb dX10_walks_364 (by decide) (fun c364_ => ?_) (fun h9 => absurd h9 (by decide))
    refine lv_iload hx hb dX10_walks_378 (lv_at hl 8 rfl) ?_
    refine lv_iconst (v := iZ 4) hx hb dX10_walks_380 rfl ?_
    refine fz_icmp_ne (tgt := 388) (by decide) (by decide) hx hb dX10_walks_381 (by decide) (fun c381_ => ?_) (fun h9 => absurd h9 (by decide))
    refine lv_iconst (v := iZ 1) hx hb dX10_walks_388 rfl ?_
    refine lv_iadd hx hb dX10_walks_389 ?_
    refine lv_topi (fun x9 ex9 => ?_)
    obtain rfl : x9 = iZ (j + 1) := ex9.trans (iZ_add _ _)
    refine lv_istore (lv' := [(4, .int (iZ (j + 1))), (3, .int (iZ (i + ri))), (7, .int (iZ (z21))), (5, .int (iZ (0))), (13, .int (iZ (0))), (12, .int (iZ (u1))), (11, .int (iZ (t))), (10, .int (iZ (x93_0))), (9, .int (iZ (x67_0))), (8, .int (iZ (3))), (6, .int (iZ (y))), (2, .int (iZ (o1))), (1, .int (iZ (n))), (0, .ref h0)]) hx hb dX10_walks_390 hl (by decide) rfl (fun ls hl => ?_)
    refine lv_goto (tgt := 14) hx hb dX10_walks_392 (by decide) ?_
    exact ih (i + ri) (j + 1) (0) (y) (z21) μr H locs ls (by
                rw [show (i + ri).toNat = i.toNat + rI lb by (first | ((try clear hne9); (try clear hj35_0); (try clear hj67_0); (try clear hj93_0); (try clear ho9); (try clear htu); show_term (have zq420 : True := trivial; omega)) | show_term (have zq420 : True := trivial; omega)), show (j + 1).toNat = j.toNat + 1 by (first | ((try clear hne9); (try clear hj35_0); (try clear hj67_0); (try clear hj93_0); (try clear ho9); (try clear htu); show_term (have zq421 : True := trivial; omega)) | show_term (have zq421 : True := trivial; omega)), pS, rdrop_add]
                rw [show (0 : Int).toNat = 0 from rfl, wk_01]
                exact hN) (by (first | ((try clear hne9); (try clear hj35_0); (try clear hj67_0); (try clear hj93_0); (try clear ho9); (try clear htu); show_term (have zq422 : True := trivial; omega)) | show_term (have zq422 : True := trivial; omega))) (by (first | ((try clear hne9); (try clear hj35_0); (try clear hj67_0); (try clear hj93_0); (try clear ho9); (try clear htu); show_term (have zq423 : True := trivial; omega)) | show_term (have zq423 : True := trivial; omega))) (by first | exact Or.inl rfl | exact Or.inr (Or.inl rfl) | exact Or.inr (Or.inr rfl)) (by
                rw [show (i + ri).toNat = i.toNat + rI lb by (first | ((try clear hne9); (try clear hj35_0); (try clear hj67_0); (try clear hj93_0); (try clear ho9); (try clear htu); show_term (have zq424 : True := trivial; omega)) | show_term (have zq424 : True := trivial; omega)), show (j + 1).toNat = j.toNat + 1 by (first | ((try clear hne9); (try clear hj35_0); (try clear hj67_0); (try clear hj93_0); (try clear ho9); (try clear htu); show_term (have zq425 : True := trivial; omega)) | show_term (have zq425 : True := trivial; omega)), pS, rdrop_add]
                obtain ⟨a1_, a2_, a3_, a4_, a5_⟩ := al_is (Or.inr rfl) hmn
                exact alI_and0 hz21 ez21 hal (a3_ hy9)) (by (first | ((try clear hne9); (try clear hj35_0); (try clear hj67_0); (try clear hj93_0); (try clear ho9); (try clear htu); show_term (have zq426 : True := trivial; omega)) | show_term (have zq426 : True := trivial; omega))) hP hS (lv_sub hl [2, 10, 3, 0, 1, 11, 12, 13] rfl)


/-! the class's constructors that make objects within -/
def qN (c : ClassId) (N : Nat) (g : Nat → Nat) (j : Nat) : va_E := .inl (c, N, .inr (.inr (.inr (.inr (fun i => if i < j then some (g i) else none)))))
theorem up_fl {g : Nat → Nat} {j : Nat} {z : Int32} (hz : z.toNatClampNeg = j) : va_up (fun i => if i < j then some (g i) else none) z.toNatClampNeg (some (g j)) = fun i => if i < j + 1 then some (g i) else none := by
  funext i
  rw [hz]
  unfold va_up
  by_cases h : i = j
  · subst h; rw [if_pos rfl, if_pos (by show_term (have zq0 : True := trivial; omega))]
  · rw [if_neg h]
    show (if i < j then some (g i) else none) = _
    by_cases h9 : i < j
    · rw [if_pos h9, if_pos (by show_term (have zq1 : True := trivial; omega))]
    · rw [if_neg h9, if_neg (by show_term (have zq2 : True := trivial; omega))]
theorem fA_sub {a c a2 c2 : Nat} (h : a + 1 ≤ a2) : ∀ q, fA a2 c2 (a2 + 1) q → fA a c (a + 1) q := fun q hq => Or.inr (hq.elim (fun h9 => by show_term (have zq3 : True := trivial; omega)) (fun h9 => by show_term (have zq4 : True := trivial; omega)))
theorem cwb_s {Rf : Nat → va_E} {ci : Nat} {fs : List Value} {sp : Nat} {e : va_E} (h : sp ≠ 0) : cwb Rf ci fs sp e sp = e := by
  unfold cwb
  rw [if_neg h, if_pos rfl]
theorem cwb_set {Rf : Nat → va_E} {a n ci : Nat} {fs : List Value} {sp : Nat} {e e' : va_E} (h : sp ≠ 0) : (fl a n (cwb Rf ci fs sp e)).set sp (a + sp, e') = fl a n (cwb Rf ci fs sp e') := by
  rw [fl_set]
  congr 1
  funext j
  by_cases h1 : j = sp
  · subst h1; rw [if_pos rfl, cwb_s h]
  · rw [if_neg h1]
    unfold cwb
    by_cases h0 : j = 0
    · rw [if_pos h0, if_pos h0]
    · rw [if_neg h0, if_neg h0, if_neg h1, if_neg h1]
/-- the object's cell and the array's among the others -/
theorem cwb_e2 {Rf : Nat → va_E} {ci : Nat} {fs : List Value} {sp : Nat} {e : va_E} (hs : sp ≠ 0) (h0 : Rf 0 = .inr (ci, fs)) (h1 : Rf sp = e) (k : Nat) : Rf k = cwb Rf ci fs sp e k := by
  by_cases h : k = 0
  · subst h; exact h0
  · by_cases h9 : k = sp
    · subst h9; rw [cwb_s hs]; exact h1
    · exact (cwb_n h h9).symm
/-- an object's cells, made by its own constructor, join those that were there -/
theorem fl_called {D : va_G} {cl : List vw_C} {a n K b : Nat} {w w2 : Nat → va_E} {H H1 : Heap} (hP : va_P D cl (fl a n w) H) (hk9 : ∀ q : Nat, q < H.size → ¬ fA b K (b + 1) q → H1[q]? = H[q]?) (hb : b = a + n) (h2 : va_P D cl (fl b K w2) H1) (e2 : ∀ k, k < K → w (n + k) = w2 k) : va_P D cl (fl a (n + K) w) H1 := by
  subst hb
  refine fl_join (w := w) (fl_P fun k hk => (fl_at hP hk).kept (hk9 _ (fl_at hP hk).lt (fun h => ?_))) h2 (fun _ _ => rfl) e2
  rcases h with h | h <;> simp only at h <;> show_term (have zq5 : True := trivial; omega)
section CWP
variable {p : Program} {l : Launch} {e : Env} {R : Room} {s : State} {m : MethodId} {args : Array Value} {below : List Frame} {meth : Method} {c : Code} {H : Heap} {locs : List Loc} {cells slots : Nat} {Q : State → Prop}
variable {cc : ByteArray} {pc : Nat} {ls : Array Slot} {rest : List Value} {D : va_G} {cl : List vw_C} {A : Nat → Prop} {tys : List (ClassId × FieldType)} {H0 : Heap} {h0 n : Nat} {w : Nat → va_E}
theorem cz_anew (hexec : p.tables.exec = Jvm.exec) (hb : c.code = cc) {own C : String} {index : Nat} (hown : s.vm.findClass own = some m.cls) (hclink : (Cond.classLink own index C).before args s = true) (hover : va_AO C s) {cA : ClassId} (hcA : va_RA s cA (.object C)) (hP : va_P D cl (fl h0 n w) H) (hn0 : 0 < n) (hsz : s.heap.size + cells = h0 + n) (hS : va_S A H0 H locs) {N' : Nat} {g : Nat → Nat} (hw : w n = qN cA N' g 0) {z : Int} (hnn : ¬ iZ z < 0) (hN : (iZ z).toNatClampNeg = N') (hbytes : N' * 4 ≤ 536870912) (hcells : cells + 1 ≤ R.cells) (hslots : slots + N' ≤ R.slots) (hdg : decode cc pc = .ok (.anewarray index, 3))
    (kk : ∀ H1 : Heap, va_P D cl (fl h0 (n + 1) w) H1 → va_S A H0 H1 locs → W p l e R s m args below meth c H1 locs (cells + 1) (slots + N') Q (F0 m (pc + 3) ls (.ref (h0 + n) :: rest))) : W p l e R s m args below meth c H locs cells slots Q (F0 m pc ls (.int (iZ z) :: rest)) := by
  refine cz_size (fun hle => ?_)
  have hge := (fl_at hP (k := n - 1) (by show_term (have zq6 : True := trivial; omega))).lt
  simp only at hge
  have hH : H.size = h0 + n := by show_term (have zq7 : True := trivial; omega)
  subst hN
  refine W.anew hexec hb hown hclink (va_AO.use hover) rfl hdg rfl hnn hbytes hcells hslots fun cA1 kA comp f1 f2 f3 f4 => ?_
  obtain ⟨-, -, -, -, -, h4⟩ := hcA
  obtain rfl : cA1 = cA := Option.some.inj (f1.symm.trans h4)
  generalize hH1 : H.push ({ cls := cA1, slots := Array.replicate (iZ z).toNatClampNeg .null, vm := .none } : Cell) = H1
  have z1 : H1.size = H.size + 1 := by rw [← hH1, Array.size_push]
  have e1 : H1[H.size]? = some (arrV cA1 (iZ z).toNatClampNeg (fun _ => .null)) := by rw [← hH1, Array.getElem?_push_size, ← arrV_new]
  have o1 : ∀ q : Nat, q < H.size → H1[q]? = H[q]? := fun q hq => by rw [← hH1, Array.getElem?_push, if_neg (Nat.ne_of_lt hq)]
  have k9 := kk H1 (fl_P fun k hk => ?_) ⟨Nat.le_trans hS.1 (by show_term (have zq8 : True := trivial; omega)), fun x h1 h2 => (o1 x (Nat.lt_of_lt_of_le h1 hS.1)).trans (hS.2.1 x h1 h2), hS.2.2⟩
  · rw [← hH] at k9
    exact k9
  · by_cases h : k < n
    · exact (fl_at hP h).kept (o1 _ (by show h0 + k < H.size; show_term (have zq9 : True := trivial; omega)))
    · obtain rfl : k = n := by show_term (have zq10 : True := trivial; omega)
      rw [hw]
      show H1[h0 + k]? = some (vp_cell _ _)
      rw [show (fun i => if i < 0 then some (g i) else none) = (fun _ => none : Nat → Option Nat) from funext fun i => if_neg (by show_term (have zq11 : True := trivial; omega)), vp_cell_q, ← hH]
      exact e1
theorem cz_ast (hexec : p.tables.exec = Jvm.exec) (hb : c.code = cc) {a ci sp N j k ci2 : Nat} {Rf : Nat → va_E} {fs vs : List Value} {cA : ClassId} {g : Nat → Nat} {r : vw_C} (hK : va_K D cl tys s) (hP : va_P D cl (fl a n (cwb Rf ci fs sp (qN cA N g j))) H) (hD : va_D A (fl a n (cwb Rf ci fs sp (qN cA N g j)))) (hS : va_S A H0 H locs) (t0 : Nat) (ht : tys[t0]? = some (cA, .object r.1)) (hs : sp ≠ 0 ∧ sp < n ∧ k < n ∧ k ≠ 0 ∧ k ≠ sp) (hR : Rf k = .inr (ci2, vs)) (hc : cl[ci2]? = some r) {z : Int} (hz : (iZ z).toNatClampNeg = j) (hin : vp_in (iZ z) N) (hg : a + k = g j) (hdg : decode cc pc = .ok (.aastore, 1))
    (kk : ∀ (H1 : Heap) (locs1 : List Loc), va_P D cl (fl a n (cwb Rf ci fs sp (qN cA N g (j + 1)))) H1 → va_S A H0 H1 locs1 → W p l e R s m args below meth c H1 locs1 cells slots Q (F0 m (pc + 1) ls rest)) : W p l e R s m args below meth c H locs cells slots Q (F0 m pc ls (.ref (a + k) :: .int (iZ z) :: .ref (a + sp) :: rest)) := by
  refine va_astq (r := r) hexec hb hK hP hD hS sp t0 k ci2 (cA := cA) (n := N) (f := fun i => if i < j then some (g i) else none) ((fl_get hs.2.1).trans (by rw [cwb_s hs.1]; rfl)) ht ((fl_get hs.2.2.1).trans (by rw [cwb_n hs.2.2.2.1 hs.2.2.2.2, hR])) hc hin hdg (fun H1 locs1 hP1 _ hS1 => kk H1 locs1 ?_ hS1)
  rw [hg, up_fl hz, cwb_set hs.1] at hP1
  exact hP1
end CWP
theorem walk_0 {h0 b i : Nat} (hb : b = 113 + i * 15) : (Sum.inr (7, sWF h0 b (fun x => iZ (sI (b + 10) x))) : va_E) = .inr (7, [.int (iZ (-1)), .int (iZ 0), .ref (h0 + (b + 10) + 1), .ref (h0 + (b + 10) + 2), .ref (h0 + (b + 10) + 3)]) := by
  have e1 : sI (b + 10) 0 = -1 := by unfold sI; rw [if_pos (Or.inr ⟨by show_term (have zq12 : True := trivial; omega), rfl⟩)]
  have e2 : sI (b + 10) 1 = 0 := by unfold sI; rw [if_neg (by show_term (have zq13 : True := trivial; omega)), if_neg (by show_term (have zq14 : True := trivial; omega))]
  unfold sWF
  dsimp only
  rw [e1, e2]
  rfl
set_option maxHeartbeats 4000000 in
set_option maxRecDepth 100000 in
theorem k_Walk (l : Launch) (dC : Nat → ClassId) (dI : Nat → Nat → Nat) (h0 : Nat) (cI cZ cII cIII : ClassId) (b i : Nat) (hi : i < 8) (hb9 : b = 113 + i * 15) : Met l yX7_init (Cond.code yX7_init cX7_init 1 none :: wsG) ({ frames := 1, cells := 3, slots := 2260, locals := 14 } : Room) (va_Pc [.ref (h0 + (b + 10))] (fun U => U.heap.size = (h0 + (b + 10)) + 1 ∧ va_P (dC, dI) vwCl (fl (h0 + (b + 10)) 1 (cwb (fun k => sE cI cZ cII cIII h0 ((b + 10) + k) (fun x => iZ (sI ((b + 10) + k) x))) 7 [.int 0, .int 0, .null, .null, .null] 0 ((fun k => sE cI cZ cII cIII h0 ((b + 10) + k) (fun x => iZ (sI ((b + 10) + k) x))) 0))) U.heap ∧ va_K (dC, dI) vwCl (sT cI cZ cII cIII) U ∧ mu_T U)) (va_Qv (fun (_ : Unit) => True) (fun (_ : Unit) (t : State) => va_P (dC, dI) vwCl (fl (h0 + (b + 10)) 4 (fun k => sE cI cZ cII cIII h0 ((b + 10) + k) (fun x => iZ (sI ((b + 10) + k) x)))) t.heap ∧ va_K (dC, dI) vwCl (sT cI cZ cII cIII) t) (fA (h0 + (b + 10)) 4 ((h0 + (b + 10)) + 1))) 3 2260 (fA (h0 + (b + 10)) 4 ((h0 + (b + 10)) + 1)) := by
  refine Met.ofW (cc := cX7_init) (maxL := 1) (ret := none) (by decide) rfl ?_
  intro p e s m args below meth c s₁ B hml hv
  obtain ⟨rfl, hsz, hP, hK, hT0⟩ := hv
  have hx := B.exec
  have hb := B.bytes
  have hr := B.returns
  have hts : ∀ w ∈ wsG, w.before _ s = true := hG_of (atoms_spec (ws := (Cond.code yX7_init cX7_init 1 none :: wsG)) B.pre)
  have hown : s.vm.findClass RX7 = some m.cls := findClass_of_methodNamed B.named
  have hlocks := B.notSynchronized
  have hin : meth.name = "<init>" := (name_of_methodNamed B.named B.method).1
  have f1 := va_RA_int (hK.2 0 _ rfl).2
  have f2 := va_RA_int2 (hK.2 2 _ rfl).2
  have hS : va_S (fA (h0 + (b + 10)) 4 ((h0 + (b + 10)) + 1)) s.heap s.heap [] := va_S.rf
  have hAD : ∀ n, n ≤ 4 → ∀ k, k < n → (fA (h0 + (b + 10)) 4 ((h0 + (b + 10)) + 1)) ((h0 + (b + 10)) + k) := fun n hn k hk => fA_in k (Nat.lt_of_lt_of_le hk hn)
  have hl := lv_entry ([.ref (h0 + (b + 10))]) (n := 1) (Nat.le_of_ble_eq_true rfl)
  rw [lg_entry_eq]
  generalize (lg_sl ([.ref (h0 + (b + 10))]) ++ List.replicate (1 - (lg_sl ([.ref (h0 + (b + 10))])).length) Slot.unset).toArray = ls at hl ⊢
  have hl : lv_has ls 1 [(0, .ref (h0 + (b + 10)))] := hl
  refine lv_aload_n hx hb dX7_init_0 rfl (lv_at hl 0 rfl) ?_
  refine W.objInit hx hb hown (hts _ k270) (hts _ k27) (hts _ k28) rfl (by rw [hml]; exact hl.1) rfl dX7_init_1 (Nat.le_of_ble_eq_true rfl) (Nat.le_of_ble_eq_true rfl) ?_
  refine W.eq (g2 := F0 m 4 ls []) rfl ?_
  refine lv_aload_n hx hb dX7_init_4 rfl (lv_at hl 0 rfl) ?_
  refine lv_iconst (v := iZ (-1)) hx hb dX7_init_5 rfl ?_
  refine va_put (D := (dC, dI)) (ci := 7) (v := .int (iZ (-1))) (ty := .int) (C := RX7) (T := TX7) (N := 5) hx hb hts inG7 tyX7 tyX7_ok nmX7 hown hK hP (fl_D (hAD 1 (by decide))) hS 0 (cwb_get (by decide)) rfl 0 (by decide) (hts _ k271) (fun _ h9 => h9) rfl (by decide +kernel) rfl rfl (Nat.le_of_ble_eq_true rfl) dX7_init_6 (fun H locs hP _ hS => ?_)
  have hP : va_P (dC, dI) vwCl (fl (h0 + (b + 10)) 1 (cwb (fun k => sE cI cZ cII cIII h0 ((b + 10) + k) (fun x => iZ (sI ((b + 10) + k) x))) 7 [.int (iZ (-1)), .int 0, .null, .null, .null] 0 ((fun k => sE cI cZ cII cIII h0 ((b + 10) + k) (fun x => iZ (sI ((b + 10) + k) x))) 0))) H := cwb_setP hP
  refine lv_aload_n hx hb dX7_init_9 rfl (lv_at hl 0 rfl) ?_
  refine lv_iconst (v := iZ 0) hx hb dX7_init_10 rfl ?_
  refine va_put (D := (dC, dI)) (ci := 7) (v := .int (iZ 0)) (ty := .int) (C := RX7) (T := TX7) (N := 5) hx hb hts inG7 tyX7 tyX7_ok nmX7 hown hK hP (fl_D (hAD 1 (by decide))) hS 0 (cwb_get (by decide)) rfl 1 (by decide) (hts _ k273) (fun _ h9 => h9) rfl (by decide +kernel) rfl rfl (Nat.le_of_ble_eq_true rfl) dX7_init_11 (fun H locs hP _ hS => ?_)
  have hP : va_P (dC, dI) vwCl (fl (h0 + (b + 10)) 1 (cwb (fun k => sE cI cZ cII cIII h0 ((b + 10) + k) (fun x => iZ (sI ((b + 10) + k) x))) 7 [.int (iZ (-1)), .int (iZ 0), .null, .null, .null] 0 ((fun k => sE cI cZ cII cIII h0 ((b + 10) + k) (fun x => iZ (sI ((b + 10) + k) x))) 0))) H := cwb_setP hP
  refine lv_aload_n hx hb dX7_init_14 rfl (lv_at hl 0 rfl) ?_
  refine lv_bipush (v := iZ 60) hx hb dX7_init_15 rfl ?_
  refine cz_new (atype := .int) (n := 1) (cA := cI) (N' := 60) (a0 := (60, .inl (fun _ => 0))) hx hb (hts _ k65) f1 hP (by decide) (by show_term (have zq15 : True := trivial; omega)) hS ((cwb_n (by decide) (by decide)).trans ((congrArg (sE cI cZ cII cIII h0 (b + 11)) (sI_z (by show_term (have zq16 : True := trivial; omega)))).trans (sE_leafA 11 60 hi hb9 (by decide) _))) (fun _ => rfl) (by decide +kernel) (by decide +kernel) (Nat.le_of_ble_eq_true rfl) (Nat.le_of_ble_eq_true rfl) (Nat.le_of_ble_eq_true rfl) dX7_init_17 (fun H hP hS => ?_)
  refine W.widen (k := 1) (n := 60) (by show_term (have zq17 : True := trivial; omega)) (by show_term (have zq18 : True := trivial; omega)) ?_
  have hP : va_P (dC, dI) vwCl (fl (h0 + (b + 10)) 2 (cwb (fun k => sE cI cZ cII cIII h0 ((b + 10) + k) (fun x => iZ (sI ((b + 10) + k) x))) 7 [.int (iZ (-1)), .int (iZ 0), .null, .null, .null] 0 ((fun k => sE cI cZ cII cIII h0 ((b + 10) + k) (fun x => iZ (sI ((b + 10) + k) x))) 0))) H := hP
  refine va_putF (D := (dC, dI)) (ci := 7) (v := .ref ((h0 + (b + 10)) + 1)) (ty := .array .int) (C := RX7) (T := TX7) (N := 5) hx hb hts inG7 tyX7 tyX7_ok nmX7 hown hK hP (fl_D (hAD 2 (by decide))) hS 0 (cwb_get (by decide)) rfl 2 (by decide) (hts _ k276) (fun _ h9 => h9) rfl hin rfl (by decide +kernel) rfl rfl (Nat.le_of_ble_eq_true rfl) dX7_init_19 (fun H locs hP _ hS => ?_)
  have hP : va_P (dC, dI) vwCl (fl (h0 + (b + 10)) 2 (cwb (fun k => sE cI cZ cII cIII h0 ((b + 10) + k) (fun x => iZ (sI ((b + 10) + k) x))) 7 [.int (iZ (-1)), .int (iZ 0), .ref ((h0 + (b + 10)) + 1), .null, .null] 0 ((fun k => sE cI cZ cII cIII h0 ((b + 10) + k) (fun x => iZ (sI ((b + 10) + k) x))) 0))) H := cwb_setP hP
  refine lv_aload_n hx hb dX7_init_22 rfl (lv_at hl 0 rfl) ?_
  refine lv_sipush (v := iZ 1100) hx hb dX7_init_23 rfl ?_
  refine cz_new (atype := .int) (n := 2) (cA := cI) (N' := 1100) (a0 := (1100, .inl (fun _ => 0))) hx hb (hts _ k65) f1 hP (by decide) (by show_term (have zq19 : True := trivial; omega)) hS ((cwb_n (by decide) (by decide)).trans ((congrArg (sE cI cZ cII cIII h0 (b + 12)) (sI_z (by show_term (have zq20 : True := trivial; omega)))).trans (sE_leafA 12 1100 hi hb9 (by decide) _))) (fun _ => rfl) (by decide +kernel) (by decide +kernel) (Nat.le_of_ble_eq_true rfl) (Nat.le_of_ble_eq_true rfl) (Nat.le_of_ble_eq_true rfl) dX7_init_26 (fun H hP hS => ?_)
  refine W.widen (k := 2) (n := 1160) (by show_term (have zq21 : True := trivial; omega)) (by show_term (have zq22 : True := trivial; omega)) ?_
  have hP : va_P (dC, dI) vwCl (fl (h0 + (b + 10)) 3 (cwb (fun k => sE cI cZ cII cIII h0 ((b + 10) + k) (fun x => iZ (sI ((b + 10) + k) x))) 7 [.int (iZ (-1)), .int (iZ 0), .ref ((h0 + (b + 10)) + 1), .null, .null] 0 ((fun k => sE cI cZ cII cIII h0 ((b + 10) + k) (fun x => iZ (sI ((b + 10) + k) x))) 0))) H := hP
  refine va_putF (D := (dC, dI)) (ci := 7) (v := .ref ((h0 + (b + 10)) + 2)) (ty := .array .int) (C := RX7) (T := TX7) (N := 5) hx hb hts inG7 tyX7 tyX7_ok nmX7 hown hK hP (fl_D (hAD 3 (by decide))) hS 0 (cwb_get (by decide)) rfl 3 (by decide) (hts _ k279) (fun _ h9 => h9) rfl hin rfl (by decide +kernel) rfl rfl (Nat.le_of_ble_eq_true rfl) dX7_init_28 (fun H locs hP _ hS => ?_)
  have hP : va_P (dC, dI) vwCl (fl (h0 + (b + 10)) 3 (cwb (fun k => sE cI cZ cII cIII h0 ((b + 10) + k) (fun x => iZ (sI ((b + 10) + k) x))) 7 [.int (iZ (-1)), .int (iZ 0), .ref ((h0 + (b + 10)) + 1), .ref ((h0 + (b + 10)) + 2), .null] 0 ((fun k => sE cI cZ cII cIII h0 ((b + 10) + k) (fun x => iZ (sI ((b + 10) + k) x))) 0))) H := cwb_setP hP
  refine lv_aload_n hx hb dX7_init_31 rfl (lv_at hl 0 rfl) ?_
  refine lv_sipush (v := iZ 1100) hx hb dX7_init_32 rfl ?_
  refine cz_new (atype := .int) (n := 3) (cA := cI) (N' := 1100) (a0 := (1100, .inl (fun _ => 0))) hx hb (hts _ k65) f1 hP (by decide) (by show_term (have zq23 : True := trivial; omega)) hS ((cwb_n (by decide) (by decide)).trans ((congrArg (sE cI cZ cII cIII h0 (b + 13)) (sI_z (by show_term (have zq24 : True := trivial; omega)))).trans (sE_leafA 13 1100 hi hb9 (by decide) _))) (fun _ => rfl) (by decide +kernel) (by decide +kernel) (Nat.le_of_ble_eq_true rfl) (Nat.le_of_ble_eq_true rfl) (Nat.le_of_ble_eq_true rfl) dX7_init_35 (fun H hP hS => ?_)
  refine W.widen (k := 3) (n := 2260) (by show_term (have zq25 : True := trivial; omega)) (by show_term (have zq26 : True := trivial; omega)) ?_
  have hP : va_P (dC, dI) vwCl (fl (h0 + (b + 10)) 4 (cwb (fun k => sE cI cZ cII cIII h0 ((b + 10) + k) (fun x => iZ (sI ((b + 10) + k) x))) 7 [.int (iZ (-1)), .int (iZ 0), .ref ((h0 + (b + 10)) + 1), .ref ((h0 + (b + 10)) + 2), .null] 0 ((fun k => sE cI cZ cII cIII h0 ((b + 10) + k) (fun x => iZ (sI ((b + 10) + k) x))) 0))) H := hP
  refine va_putF (D := (dC, dI)) (ci := 7) (v := .ref ((h0 + (b + 10)) + 3)) (ty := .array .int) (C := RX7) (T := TX7) (N := 5) hx hb hts inG7 tyX7 tyX7_ok nmX7 hown hK hP (fl_D (hAD 4 (by decide))) hS 0 (cwb_get (by decide)) rfl 4 (by decide) (hts _ k282) (fun _ h9 => h9) rfl hin rfl (by decide +kernel) rfl rfl (Nat.le_of_ble_eq_true rfl) dX7_init_37 (fun H locs hP _ hS => ?_)
  have hP : va_P (dC, dI) vwCl (fl (h0 + (b + 10)) 4 (cwb (fun k => sE cI cZ cII cIII h0 ((b + 10) + k) (fun x => iZ (sI ((b + 10) + k) x))) 7 [.int (iZ (-1)), .int (iZ 0), .ref ((h0 + (b + 10)) + 1), .ref ((h0 + (b + 10)) + 2), .ref ((h0 + (b + 10)) + 3)] 0 ((fun k => sE cI cZ cII cIII h0 ((b + 10) + k) (fun x => iZ (sI ((b + 10) + k) x))) 0))) H := cwb_setP hP
  have hPf : va_P (dC, dI) vwCl (fl (h0 + (b + 10)) 4 (fun k => sE cI cZ cII cIII h0 ((b + 10) + k) (fun x => iZ (sI ((b + 10) + k) x)))) H := fl_eq hP (fun k hk => cwb_e (Rf := (fun k => sE cI cZ cII cIII h0 ((b + 10) + k) (fun x => iZ (sI ((b + 10) + k) x)))) ((sE_walk hi hb9 _).trans (walk_0 hb9)) k)
  exact W.vret hx hb hr (fun t ht hW => ⟨⟨(), rfl, trivial, by rw [ht]; exact hPf, va_K.moved hW.alike hK⟩, hS.F ht⟩) hS.2.2 dX7_init_40
set_option maxHeartbeats 4000000 in
set_option maxRecDepth 100000 in
theorem k_Leaf (l : Launch) (dC : Nat → ClassId) (dI : Nat → Nat → Nat) (h0 : Nat) (cI cZ cII cIII : ClassId) (b i : Nat) (hi : i < 8) (hb9 : b = 113 + i * 15) : Met l yX1_init (Cond.code yX1_init cX1_init 1 none :: wsG) ({ frames := 2, cells := 14, slots := 3115, locals := 43 } : Room) (va_Pc [.ref (h0 + b)] (fun U => U.heap.size = (h0 + b) + 1 ∧ va_P (dC, dI) vwCl (fl (h0 + b) 1 (cwb (fun k => sE cI cZ cII cIII h0 (b + k) (fun x => iZ (sI (b + k) x))) 1 [.null, .null, .int 0, .null, .null, .int 0, .null, .null] 0 ((fun k => sE cI cZ cII cIII h0 (b + k) (fun x => iZ (sI (b + k) x))) 0))) U.heap ∧ va_K (dC, dI) vwCl (sT cI cZ cII cIII) U ∧ xN U)) (va_Qv (fun (_ : Unit) => True) (fun (_ : Unit) (t : State) => va_P (dC, dI) vwCl (fl (h0 + b) 15 (fun k => sE cI cZ cII cIII h0 (b + k) (fun x => iZ (sI (b + k) x)))) t.heap ∧ va_K (dC, dI) vwCl (sT cI cZ cII cIII) t) (fA (h0 + b) 15 ((h0 + b) + 1))) 14 3115 (fA (h0 + b) 15 ((h0 + b) + 1)) := by
  refine Met.ofW (cc := cX1_init) (maxL := 1) (ret := none) (by decide) rfl ?_
  intro p e s m args below meth c s₁ B hml hv
  obtain ⟨rfl, hsz, hP, hK, hEx⟩ := hv
  have hT0 := hEx.2.1
  have hx := B.exec
  have hb := B.bytes
  have hr := B.returns
  have hts : ∀ w ∈ wsG, w.before _ s = true := hG_of (atoms_spec (ws := (Cond.code yX1_init cX1_init 1 none :: wsG)) B.pre)
  have hown : s.vm.findClass RX1 = some m.cls := findClass_of_methodNamed B.named
  have hlocks := B.notSynchronized
  have hin : meth.name = "<init>" := (name_of_methodNamed B.named B.method).1
  have f1 := va_RA_int (hK.2 0 _ rfl).2
  have f2 := va_RA_int2 (hK.2 2 _ rfl).2
  have hS : va_S (fA (h0 + b) 15 ((h0 + b) + 1)) s.heap s.heap [] := va_S.rf
  have hAD : ∀ n, n ≤ 15 → ∀ k, k < n → (fA (h0 + b) 15 ((h0 + b) + 1)) ((h0 + b) + k) := fun n hn k hk => fA_in k (Nat.lt_of_lt_of_le hk hn)
  have hl := lv_entry ([.ref (h0 + b)]) (n := 1) (Nat.le_of_ble_eq_true rfl)
  rw [lg_entry_eq]
  generalize (lg_sl ([.ref (h0 + b)]) ++ List.replicate (1 - (lg_sl ([.ref (h0 + b)])).length) Slot.unset).toArray = ls at hl ⊢
  have hl : lv_has ls 1 [(0, .ref (h0 + b))] := hl
  refine lv_aload_n hx hb dX1_init_0 rfl (lv_at hl 0 rfl) ?_
  refine W.objInit hx hb hown (hts _ k262) (hts _ k27) (hts _ k28) rfl (by rw [hml]; exact hl.1) rfl dX1_init_1 (Nat.le_of_ble_eq_true rfl) (Nat.le_of_ble_eq_true rfl) ?_
  refine W.eq (g2 := F0 m 4 ls []) rfl ?_
  refine lv_aload_n hx hb dX1_init_4 rfl (lv_at hl 0 rfl) ?_
  refine lv_bipush (v := iZ 60) hx hb dX1_init_5 rfl ?_
  refine cz_new (h0 := (h0 + b)) (atype := .int) (n := 1) (cA := cI) (N' := 60) (a0 := (60, .inl (fun _ => 0))) hx hb (hts _ k65) f1 hP (by decide) (by show_term (have zq27 : True := trivial; omega)) hS ((cwb_n (by decide) (by decide)).trans ((congrArg (sE cI cZ cII cIII h0 (b + 1)) (sI_z (by show_term (have zq28 : True := trivial; omega)))).trans (sE_leafA 1 60 hi hb9 (by decide) _))) (fun _ => rfl) (by decide +kernel) (by decide +kernel) (Nat.le_of_ble_eq_true rfl) (Nat.le_of_ble_eq_true rfl) (Nat.le_of_ble_eq_true rfl) dX1_init_7 (fun H hP hS => ?_)
  refine W.widen (k := 1) (n := 60) (by show_term (have zq29 : True := trivial; omega)) (by show_term (have zq30 : True := trivial; omega)) ?_
  have hP : va_P (dC, dI) vwCl (fl (h0 + b) 2 (cwb (fun k => sE cI cZ cII cIII h0 (b + k) (fun x => iZ (sI (b + k) x))) 1 [.null, .null, .int 0, .null, .null, .int 0, .null, .null] 0 ((fun k => sE cI cZ cII cIII h0 (b + k) (fun x => iZ (sI (b + k) x))) 0))) H := hP
  refine W.eq (g2 := F0 m 9 ls [.ref (h0 + (b + 1)), .ref (h0 + b)]) rfl ?_
  refine va_putF (D := (dC, dI)) (ci := 1) (v := .ref (h0 + (b + 1))) (ty := .array .int) (C := RX1) (T := TX1) (N := 8) hx hb hts inG1 tyX1 tyX1_ok nmX1 hown hK hP (fl_D (hAD 2 (by decide))) hS 0 (cwb_get (by decide)) rfl 0 (by decide) (hts _ k296) (fun _ h9 => h9) rfl hin rfl (by decide +kernel) rfl rfl (Nat.le_of_ble_eq_true rfl) dX1_init_9 (fun H locs hP _ hS => ?_)
  have hP : va_P (dC, dI) vwCl (fl (h0 + b) 2 (cwb (fun k => sE cI cZ cII cIII h0 (b + k) (fun x => iZ (sI (b + k) x))) 1 [.ref (h0 + (b + 1)), .null, .int 0, .null, .null, .int 0, .null, .null] 0 ((fun k => sE cI cZ cII cIII h0 (b + k) (fun x => iZ (sI (b + k) x))) 0))) H := cwb_setP hP
  refine lv_aload_n hx hb dX1_init_12 rfl (lv_at hl 0 rfl) ?_
  refine lv_bipush (v := iZ 60) hx hb dX1_init_13 rfl ?_
  refine cz_new (h0 := (h0 + b)) (atype := .int) (n := 2) (cA := cI) (N' := 60) (a0 := (60, .inl (fun _ => 0))) hx hb (hts _ k65) f1 hP (by decide) (by show_term (have zq31 : True := trivial; omega)) hS ((cwb_n (by decide) (by decide)).trans ((congrArg (sE cI cZ cII cIII h0 (b + 2)) (sI_z (by show_term (have zq32 : True := trivial; omega)))).trans (sE_leafA 2 60 hi hb9 (by decide) _))) (fun _ => rfl) (by decide +kernel) (by decide +kernel) (Nat.le_of_ble_eq_true rfl) (Nat.le_of_ble_eq_true rfl) (Nat.le_of_ble_eq_true rfl) dX1_init_15 (fun H hP hS => ?_)
  refine W.widen (k := 2) (n := 120) (by show_term (have zq33 : True := trivial; omega)) (by show_term (have zq34 : True := trivial; omega)) ?_
  have hP : va_P (dC, dI) vwCl (fl (h0 + b) 3 (cwb (fun k => sE cI cZ cII cIII h0 (b + k) (fun x => iZ (sI (b + k) x))) 1 [.ref (h0 + (b + 1)), .null, .int 0, .null, .null, .int 0, .null, .null] 0 ((fun k => sE cI cZ cII cIII h0 (b + k) (fun x => iZ (sI (b + k) x))) 0))) H := hP
  refine W.eq (g2 := F0 m 17 ls [.ref (h0 + (b + 2)), .ref (h0 + b)]) rfl ?_
  refine va_putF (D := (dC, dI)) (ci := 1) (v := .ref (h0 + (b + 2))) (ty := .array .int) (C := RX1) (T := TX1) (N := 8) hx hb hts inG1 tyX1 tyX1_ok nmX1 hown hK hP (fl_D (hAD 3 (by decide))) hS 0 (cwb_get (by decide)) rfl 1 (by decide) (hts _ k298) (fun _ h9 => h9) rfl hin rfl (by decide +kernel) rfl rfl (Nat.le_of_ble_eq_true rfl) dX1_init_17 (fun H locs hP _ hS => ?_)
  have hP : va_P (dC, dI) vwCl (fl (h0 + b) 3 (cwb (fun k => sE cI cZ cII cIII h0 (b + k) (fun x => iZ (sI (b + k) x))) 1 [.ref (h0 + (b + 1)), .ref (h0 + (b + 2)), .int 0, .null, .null, .int 0, .null, .null] 0 ((fun k => sE cI cZ cII cIII h0 (b + k) (fun x => iZ (sI (b + k) x))) 0))) H := cwb_setP hP
  refine lv_aload_n hx hb dX1_init_20 rfl (lv_at hl 0 rfl) ?_
  refine lv_iconst (v := iZ 0) hx hb dX1_init_21 rfl ?_
  refine va_put (D := (dC, dI)) (ci := 1) (v := .int (iZ 0)) (ty := .int) (C := RX1) (T := TX1) (N := 8) hx hb hts inG1 tyX1 tyX1_ok nmX1 hown hK hP (fl_D (hAD 3 (by decide))) hS 0 (cwb_get (by decide)) rfl 2 (by decide) (hts _ k300) (fun _ h9 => h9) rfl (by decide +kernel) rfl rfl (Nat.le_of_ble_eq_true rfl) dX1_init_22 (fun H locs hP _ hS => ?_)
  have hP : va_P (dC, dI) vwCl (fl (h0 + b) 3 (cwb (fun k => sE cI cZ cII cIII h0 (b + k) (fun x => iZ (sI (b + k) x))) 1 [.ref (h0 + (b + 1)), .ref (h0 + (b + 2)), .int (iZ 0), .null, .null, .int 0, .null, .null] 0 ((fun k => sE cI cZ cII cIII h0 (b + k) (fun x => iZ (sI (b + k) x))) 0))) H := cwb_setP hP
  refine lv_aload_n hx hb dX1_init_25 rfl (lv_at hl 0 rfl) ?_
  refine cz_obj (h0 := (h0 + b)) (n := 3) (ci := 4) (fs := [.null, .null, .null, .null, .null, .int 0, .int 0, .int 0]) (C := RX4) (T := TX4) (N := 8) hx hb hts inG4 tyX4 tyX4_ok hown (hts _ k263) (hts _ k69) (hts _ k3) hK hP (by decide) (by show_term (have zq35 : True := trivial; omega)) hS rfl (fun j hj => by rcases (show j = 0 ∨ j = 1 ∨ j = 2 ∨ j = 3 ∨ j = 4 ∨ j = 5 ∨ j = 6 ∨ j = 7 by show_term (have zq36 : True := trivial; omega)) with rfl | rfl | rfl | rfl | rfl | rfl | rfl | rfl <;> rfl) (Nat.le_of_ble_eq_true rfl) (Nat.le_of_ble_eq_true rfl) dX1_init_26 (fun H hz9 hP hPo hS => ?_)
  refine W.widen (k := 3) (n := 128) (by show_term (have zq37 : True := trivial; omega)) (by show_term (have zq38 : True := trivial; omega)) ?_
  refine W.eq (g2 := F0 m 29 ls [.ref (h0 + (b + 3)), .ref (h0 + b)]) rfl ?_
  refine lv_dup hx hb dX1_init_29 rfl ?_
  refine lv_bipush (v := iZ 96) hx hb dX1_init_30 rfl ?_
  have hPc : va_P (dC, dI) vwCl (fl (h0 + (b + 3)) 1 (cwb (fun k => sE cI cZ cII cIII h0 ((b + 3) + k) (fun x => iZ (sI ((b + 3) + k) x))) 4 [.null, .null, .null, .null, .null, .int 0, .int 0, .int 0] 0 ((fun k => sE cI cZ cII cIII h0 ((b + 3) + k) (fun x => iZ (sI ((b + 3) + k) x))) 0))) H := fl_P (fun k hk => by obtain rfl : k = 0 := (by show_term (have zq39 : True := trivial; omega)); exact fl_at hPo hk)
  refine va_callv (va_runI (As := [.int (iZ 96)]) (rest := [.ref (h0 + (b + 3)), .ref (h0 + b)]) ⟨hx, hb, hml, hown, hts⟩ (k_Row96 l dC dI h0 cI cZ cII cIII ((b + 3)) (rowB_L hi hb9)) (cwI 1 hts (gI_G k72) rfl rfl rfl (hts _ k3) (hts _ k264) (hts _ k71) rfl (by decide +kernel) ⟨Nat.le_of_ble_eq_true rfl, Nat.le_of_ble_eq_true rfl⟩) ⟨fun a U g mk q => by obtain ⟨q0, q1, qP, qK, qM⟩ := q; exact ⟨q0, q1, qP, va_K.moved (u := U) (U := U.calling g mk a) (Vm.Alike.refl U.vm) qK, qM⟩, fun U hU hW => ⟨rfl, by rw [hU]; exact hz9, by rw [hU]; exact hPc, va_K.moved hW.alike hK, (xN_warm hW hEx).2.1⟩⟩ rfl rfl hl.1 rfl (lv_room (Nat.le_of_ble_eq_true rfl)) dX1_init_32 ⟨Nat.le_of_ble_eq_true rfl, Nat.le_of_ble_eq_true rfl⟩) hS (fun q9 _ h9 => fA_sub (by show_term (have zq40 : True := trivial; omega)) q9 h9) (fA_sub (by show_term (have zq41 : True := trivial; omega))) (fun u9 t9 H1 locs ht9 hvm9 hw9 hB9 hz9 hk9 hS => ?_)
  obtain ⟨hP9, -⟩ := hB9
  rw [ht9] at hP9
  have hP := fl_called hP hk9 (by show_term (have zq42 : True := trivial; omega)) hP9 (fun k hk => (cwb_n (by show_term (have zq43 : True := trivial; omega)) (by show_term (have zq44 : True := trivial; omega))).trans (congrArg (fun z => sE cI cZ cII cIII h0 z (fun x => iZ (sI z x))) (by show_term (have zq45 : True := trivial; omega))))
  clear hPo hPc hk9 hP9 hz9
  generalize H1 = H at hP hS ⊢
  refine W.widen (k := 8) (n := 609) (by show_term (have zq46 : True := trivial; omega)) (by show_term (have zq47 : True := trivial; omega)) ?_
  have hP : va_P (dC, dI) vwCl (fl (h0 + b) 9 (cwb (fun k => sE cI cZ cII cIII h0 (b + k) (fun x => iZ (sI (b + k) x))) 1 [.ref (h0 + (b + 1)), .ref (h0 + (b + 2)), .int (iZ 0), .null, .null, .int 0, .null, .null] 0 ((fun k => sE cI cZ cII cIII h0 (b + k) (fun x => iZ (sI (b + k) x))) 0))) H := hP
  refine va_putF (D := (dC, dI)) (ci := 1) (v := .ref (h0 + (b + 3))) (ty := .object "PageSkeleton$Row") (C := RX1) (T := TX1) (N := 8) hx hb hts inG1 tyX1 tyX1_ok nmX1 hown hK hP (fl_D (hAD 9 (by decide))) hS 0 (cwb_get (by decide)) rfl 3 (by decide) (hts _ k302) (fun _ h9 => h9) rfl hin rfl (by decide +kernel) rfl rfl (Nat.le_of_ble_eq_true rfl) dX1_init_35 (fun H locs hP _ hS => ?_)
  have hP : va_P (dC, dI) vwCl (fl (h0 + b) 9 (cwb (fun k => sE cI cZ cII cIII h0 (b + k) (fun x => iZ (sI (b + k) x))) 1 [.ref (h0 + (b + 1)), .ref (h0 + (b + 2)), .int (iZ 0), .ref (h0 + (b + 3)), .null, .int 0, .null, .null] 0 ((fun k => sE cI cZ cII cIII h0 (b + k) (fun x => iZ (sI (b + k) x))) 0))) H := cwb_setP hP
  refine lv_aload_n hx hb dX1_init_38 rfl (lv_at hl 0 rfl) ?_
  refine lv_sipush (v := iZ 180) hx hb dX1_init_39 rfl ?_
  refine cz_new (h0 := (h0 + b)) (atype := .int) (n := 9) (cA := cI) (N' := 180) (a0 := (180, .inl (fun _ => 0))) hx hb (hts _ k65) f1 hP (by decide) (by show_term (have zq48 : True := trivial; omega)) hS ((cwb_n (by decide) (by decide)).trans ((congrArg (sE cI cZ cII cIII h0 (b + 9)) (sI_z (by show_term (have zq49 : True := trivial; omega)))).trans (sE_leafA 9 180 hi hb9 (by decide) _))) (fun _ => rfl) (by decide +kernel) (by decide +kernel) (Nat.le_of_ble_eq_true rfl) (Nat.le_of_ble_eq_true rfl) (Nat.le_of_ble_eq_true rfl) dX1_init_42 (fun H hP hS => ?_)
  refine W.widen (k := 9) (n := 789) (by show_term (have zq50 : True := trivial; omega)) (by show_term (have zq51 : True := trivial; omega)) ?_
  have hP : va_P (dC, dI) vwCl (fl (h0 + b) 10 (cwb (fun k => sE cI cZ cII cIII h0 (b + k) (fun x => iZ (sI (b + k) x))) 1 [.ref (h0 + (b + 1)), .ref (h0 + (b + 2)), .int (iZ 0), .ref (h0 + (b + 3)), .null, .int 0, .null, .null] 0 ((fun k => sE cI cZ cII cIII h0 (b + k) (fun x => iZ (sI (b + k) x))) 0))) H := hP
  refine W.eq (g2 := F0 m 44 ls [.ref (h0 + (b + 9)), .ref (h0 + b)]) rfl ?_
  refine va_putF (D := (dC, dI)) (ci := 1) (v := .ref (h0 + (b + 9))) (ty := .array .int) (C := RX1) (T := TX1) (N := 8) hx hb hts inG1 tyX1 tyX1_ok nmX1 hown hK hP (fl_D (hAD 10 (by decide))) hS 0 (cwb_get (by decide)) rfl 4 (by decide) (hts _ k305) (fun _ h9 => h9) rfl hin rfl (by decide +kernel) rfl rfl (Nat.le_of_ble_eq_true rfl) dX1_init_44 (fun H locs hP _ hS => ?_)
  have hP : va_P (dC, dI) vwCl (fl (h0 + b) 10 (cwb (fun k => sE cI cZ cII cIII h0 (b + k) (fun x => iZ (sI (b + k) x))) 1 [.ref (h0 + (b + 1)), .ref (h0 + (b + 2)), .int (iZ 0), .ref (h0 + (b + 3)), .ref (h0 + (b + 9)), .int 0, .null, .null] 0 ((fun k => sE cI cZ cII cIII h0 (b + k) (fun x => iZ (sI (b + k) x))) 0))) H := cwb_setP hP
  refine lv_aload_n hx hb dX1_init_47 rfl (lv_at hl 0 rfl) ?_
  refine lv_iconst (v := iZ 0) hx hb dX1_init_48 rfl ?_
  refine va_put (D := (dC, dI)) (ci := 1) (v := .int (iZ 0)) (ty := .int) (C := RX1) (T := TX1) (N := 8) hx hb hts inG1 tyX1 tyX1_ok nmX1 hown hK hP (fl_D (hAD 10 (by decide))) hS 0 (cwb_get (by decide)) rfl 5 (by decide) (hts _ k307) (fun _ h9 => h9) rfl (by decide +kernel) rfl rfl (Nat.le_of_ble_eq_true rfl) dX1_init_49 (fun H locs hP _ hS => ?_)
  have hP : va_P (dC, dI) vwCl (fl (h0 + b) 10 (cwb (fun k => sE cI cZ cII cIII h0 (b + k) (fun x => iZ (sI (b + k) x))) 1 [.ref (h0 + (b + 1)), .ref (h0 + (b + 2)), .int (iZ 0), .ref (h0 + (b + 3)), .ref (h0 + (b + 9)), .int (iZ 0), .null, .null] 0 ((fun k => sE cI cZ cII cIII h0 (b + k) (fun x => iZ (sI (b + k) x))) 0))) H := cwb_setP hP
  refine lv_aload_n hx hb dX1_init_52 rfl (lv_at hl 0 rfl) ?_
  refine cz_obj (h0 := (h0 + b)) (n := 10) (ci := 7) (fs := [.int 0, .int 0, .null, .null, .null]) (C := RX7) (T := TX7) (N := 5) hx hb hts inG7 tyX7 tyX7_ok hown (hts _ k265) (hts _ k266) (hts _ k11) hK hP (by decide) (by show_term (have zq52 : True := trivial; omega)) hS rfl (fun j hj => by rcases (show j = 0 ∨ j = 1 ∨ j = 2 ∨ j = 3 ∨ j = 4 by show_term (have zq53 : True := trivial; omega)) with rfl | rfl | rfl | rfl | rfl <;> rfl) (Nat.le_of_ble_eq_true rfl) (Nat.le_of_ble_eq_true rfl) dX1_init_53 (fun H hz9 hP hPo hS => ?_)
  refine W.widen (k := 10) (n := 794) (by show_term (have zq54 : True := trivial; omega)) (by show_term (have zq55 : True := trivial; omega)) ?_
  refine W.eq (g2 := F0 m 56 ls [.ref (h0 + (b + 10)), .ref (h0 + b)]) rfl ?_
  refine lv_dup hx hb dX1_init_56 rfl ?_
  have hPc : va_P (dC, dI) vwCl (fl (h0 + (b + 10)) 1 (cwb (fun k => sE cI cZ cII cIII h0 ((b + 10) + k) (fun x => iZ (sI ((b + 10) + k) x))) 7 [.int 0, .int 0, .null, .null, .null] 0 ((fun k => sE cI cZ cII cIII h0 ((b + 10) + k) (fun x => iZ (sI ((b + 10) + k) x))) 0))) H := fl_P (fun k hk => by obtain rfl : k = 0 := (by show_term (have zq56 : True := trivial; omega)); exact fl_at hPo hk)
  refine va_callv (va_runIN (As := []) (rest := [.ref (h0 + (b + 10)), .ref (h0 + b)]) ⟨hx, hb, hml, hown, hts⟩ (k_Walk l dC dI h0 cI cZ cII cIII b i hi hb9) ⟨va_cnB (host := "PageSkeleton") 0 hts (gI_G k269) rfl rfl rfl (xN_nest hEx 6 rfl) (hts _ k11) (by decide +kernel) ⟨Nat.le_of_ble_eq_true rfl, Nat.le_of_ble_eq_true rfl⟩, rfl, hts _ k268⟩ ⟨fun a U g mk q => by obtain ⟨q0, q1, qP, qK, qM⟩ := q; exact ⟨q0, q1, qP, va_K.moved (u := U) (U := U.calling g mk a) (Vm.Alike.refl U.vm) qK, qM⟩, fun U hU hW => ⟨rfl, by rw [hU]; exact hz9, by rw [hU]; exact hPc, va_K.moved hW.alike hK, (xN_warm hW hEx).2.1⟩⟩ rfl rfl hl.1 rfl (lv_room (Nat.le_of_ble_eq_true rfl)) dX1_init_57 ⟨Nat.le_of_ble_eq_true rfl, Nat.le_of_ble_eq_true rfl⟩) hS (fun q9 _ h9 => fA_sub (by show_term (have zq57 : True := trivial; omega)) q9 h9) (fA_sub (by show_term (have zq58 : True := trivial; omega))) (fun u9 t9 H1 locs ht9 hvm9 hw9 hB9 hz9 hk9 hS => ?_)
  obtain ⟨hP9, -⟩ := hB9
  rw [ht9] at hP9
  have hP := fl_called hP hk9 (by show_term (have zq59 : True := trivial; omega)) hP9 (fun k hk => (cwb_n (by show_term (have zq60 : True := trivial; omega)) (by show_term (have zq61 : True := trivial; omega))).trans (congrArg (fun z => sE cI cZ cII cIII h0 z (fun x => iZ (sI z x))) (by show_term (have zq62 : True := trivial; omega))))
  clear hPo hPc hk9 hP9 hz9
  generalize H1 = H at hP hS ⊢
  refine W.widen (k := 13) (n := 3054) (by show_term (have zq63 : True := trivial; omega)) (by show_term (have zq64 : True := trivial; omega)) ?_
  have hP : va_P (dC, dI) vwCl (fl (h0 + b) 14 (cwb (fun k => sE cI cZ cII cIII h0 (b + k) (fun x => iZ (sI (b + k) x))) 1 [.ref (h0 + (b + 1)), .ref (h0 + (b + 2)), .int (iZ 0), .ref (h0 + (b + 3)), .ref (h0 + (b + 9)), .int (iZ 0), .null, .null] 0 ((fun k => sE cI cZ cII cIII h0 (b + k) (fun x => iZ (sI (b + k) x))) 0))) H := hP
  refine va_putF (D := (dC, dI)) (ci := 1) (v := .ref (h0 + (b + 10))) (ty := .object "PageSkeleton$Walk") (C := RX1) (T := TX1) (N := 8) hx hb hts inG1 tyX1 tyX1_ok nmX1 hown hK hP (fl_D (hAD 14 (by decide))) hS 0 (cwb_get (by decide)) rfl 6 (by decide) (hts _ k309) (fun _ h9 => h9) rfl hin rfl (by decide +kernel) rfl rfl (Nat.le_of_ble_eq_true rfl) dX1_init_60 (fun H locs hP _ hS => ?_)
  have hP : va_P (dC, dI) vwCl (fl (h0 + b) 14 (cwb (fun k => sE cI cZ cII cIII h0 (b + k) (fun x => iZ (sI (b + k) x))) 1 [.ref (h0 + (b + 1)), .ref (h0 + (b + 2)), .int (iZ 0), .ref (h0 + (b + 3)), .ref (h0 + (b + 9)), .int (iZ 0), .ref (h0 + (b + 10)), .null] 0 ((fun k => sE cI cZ cII cIII h0 (b + k) (fun x => iZ (sI (b + k) x))) 0))) H := cwb_setP hP
  refine lv_aload_n hx hb dX1_init_63 rfl (lv_at hl 0 rfl) ?_
  refine lv_bipush (v := iZ 61) hx hb dX1_init_64 rfl ?_
  refine cz_new (h0 := (h0 + b)) (atype := .int) (n := 14) (cA := cI) (N' := 61) (a0 := (61, .inl (fun _ => 0))) hx hb (hts _ k65) f1 hP (by decide) (by show_term (have zq65 : True := trivial; omega)) hS ((cwb_n (by decide) (by decide)).trans ((congrArg (sE cI cZ cII cIII h0 (b + 14)) (sI_z (by show_term (have zq66 : True := trivial; omega)))).trans (sE_leafA 14 61 hi hb9 (by decide) _))) (fun _ => rfl) (by decide +kernel) (by decide +kernel) (Nat.le_of_ble_eq_true rfl) (Nat.le_of_ble_eq_true rfl) (Nat.le_of_ble_eq_true rfl) dX1_init_66 (fun H hP hS => ?_)
  refine W.widen (k := 14) (n := 3115) (by show_term (have zq67 : True := trivial; omega)) (by show_term (have zq68 : True := trivial; omega)) ?_
  have hP : va_P (dC, dI) vwCl (fl (h0 + b) 15 (cwb (fun k => sE cI cZ cII cIII h0 (b + k) (fun x => iZ (sI (b + k) x))) 1 [.ref (h0 + (b + 1)), .ref (h0 + (b + 2)), .int (iZ 0), .ref (h0 + (b + 3)), .ref (h0 + (b + 9)), .int (iZ 0), .ref (h0 + (b + 10)), .null] 0 ((fun k => sE cI cZ cII cIII h0 (b + k) (fun x => iZ (sI (b + k) x))) 0))) H := hP
  refine W.eq (g2 := F0 m 68 ls [.ref (h0 + (b + 14)), .ref (h0 + b)]) rfl ?_
  refine va_putF (D := (dC, dI)) (ci := 1) (v := .ref (h0 + (b + 14))) (ty := .array .int) (C := RX1) (T := TX1) (N := 8) hx hb hts inG1 tyX1 tyX1_ok nmX1 hown hK hP (fl_D (hAD 15 (by decide))) hS 0 (cwb_get (by decide)) rfl 7 (by decide) (hts _ k311) (fun _ h9 => h9) rfl hin rfl (by decide +kernel) rfl rfl (Nat.le_of_ble_eq_true rfl) dX1_init_68 (fun H locs hP _ hS => ?_)
  have hP : va_P (dC, dI) vwCl (fl (h0 + b) 15 (cwb (fun k => sE cI cZ cII cIII h0 (b + k) (fun x => iZ (sI (b + k) x))) 1 [.ref (h0 + (b + 1)), .ref (h0 + (b + 2)), .int (iZ 0), .ref (h0 + (b + 3)), .ref (h0 + (b + 9)), .int (iZ 0), .ref (h0 + (b + 10)), .ref (h0 + (b + 14))] 0 ((fun k => sE cI cZ cII cIII h0 (b + k) (fun x => iZ (sI (b + k) x))) 0))) H := cwb_setP hP
  have hPf : va_P (dC, dI) vwCl (fl (h0 + b) 15 (fun k => sE cI cZ cII cIII h0 (b + k) (fun x => iZ (sI (b + k) x)))) H := fl_eq hP (fun k hk => cwb_e (Rf := (fun k => sE cI cZ cII cIII h0 (b + k) (fun x => iZ (sI (b + k) x)))) ((congrArg (sE cI cZ cII cIII h0 b) (sI_z (by show_term (have zq69 : True := trivial; omega)))).trans ((sE_leafO hi hb9 _).trans rfl)) k)
  exact W.vret hx hb hr (fun t ht hW => ⟨⟨(), rfl, trivial, by rw [ht]; exact hPf, va_K.moved hW.alike hK⟩, hS.F ht⟩) hS.2.2 dX1_init_71
set_option maxHeartbeats 4000000 in
set_option maxRecDepth 100000 in
theorem k_Orders (l : Launch) (dC : Nat → ClassId) (dI : Nat → Nat → Nat) (h0 : Nat) (cI cZ cII cIII : ClassId)  : Met l yX2_init (Cond.code yX2_init cX2_init 2 none :: wsG) ({ frames := 2, cells := 61, slots := 54035, locals := 43 } : Room) (va_Pc [.ref (h0 + 48)] (fun U => U.heap.size = (h0 + 48) + 1 ∧ va_P (dC, dI) vwCl (fl (h0 + 48) 1 (fun _ => .inr (2, [.null, .null, .null, .null, .null, .null, .int 0, .int 0, .null]))) U.heap ∧ va_K (dC, dI) vwCl (sT cI cZ cII cIII) U ∧ xN U)) (va_Qv (fun (_ : Unit) => True) (fun (_ : Unit) (t : State) => va_P (dC, dI) vwCl (fl (h0 + 48) 62 (fun k => sE cI cZ cII cIII h0 (48 + k) (fun x => iZ (sI (48 + k) x)))) t.heap ∧ va_K (dC, dI) vwCl (sT cI cZ cII cIII) t) (fA (h0 + 48) 62 ((h0 + 48) + 1))) 61 54035 (fA (h0 + 48) 62 ((h0 + 48) + 1)) := by
  refine Met.ofW (cc := cX2_init) (maxL := 2) (ret := none) (by decide) rfl ?_
  intro p e s m args below meth c s₁ B hml hv
  obtain ⟨rfl, hsz, hP, hK, hEx⟩ := hv
  have hT0 := hEx.2.1
  have hx := B.exec
  have hb := B.bytes
  have hr := B.returns
  have hts : ∀ w ∈ wsG, w.before _ s = true := hG_of (atoms_spec (ws := (Cond.code yX2_init cX2_init 2 none :: wsG)) B.pre)
  have hown : s.vm.findClass RX2 = some m.cls := findClass_of_methodNamed B.named
  have hlocks := B.notSynchronized
  have hin : meth.name = "<init>" := (name_of_methodNamed B.named B.method).1
  have f1 := va_RA_int (hK.2 0 _ rfl).2
  have f2 := va_RA_int2 (hK.2 2 _ rfl).2
  have hS : va_S (fA (h0 + 48) 62 ((h0 + 48) + 1)) s.heap s.heap [] := va_S.rf
  have hAD : ∀ n, n ≤ 62 → ∀ k, k < n → (fA (h0 + 48) 62 ((h0 + 48) + 1)) ((h0 + 48) + k) := fun n hn k hk => fA_in k (Nat.lt_of_lt_of_le hk hn)
  have hl := lv_entry ([.ref (h0 + 48)]) (n := 2) (Nat.le_of_ble_eq_true rfl)
  rw [lg_entry_eq]
  generalize (lg_sl ([.ref (h0 + 48)]) ++ List.replicate (2 - (lg_sl ([.ref (h0 + 48)])).length) Slot.unset).toArray = ls at hl ⊢
  have hl : lv_has ls 2 [(0, .ref (h0 + 48))] := hl
  have hP : va_P (dC, dI) vwCl (fl (h0 + 48) 1 (cwb (fun k => sE cI cZ cII cIII h0 (48 + k) (fun x => iZ (sI (48 + k) x))) 2 [.null, .null, .null, .null, .null, .null, .int 0, .int 0, .null] 2 (qN cIII 5 (fun i => h0 + (80 + i * 6)) 0))) s.heap := fl_P (fun k hk => by obtain rfl : k = 0 := (by show_term (have zq70 : True := trivial; omega)); exact fl_at hP hk)
  refine lv_aload_n hx hb dX2_init_0 rfl (lv_at hl 0 rfl) ?_
  refine W.objInit hx hb hown (hts _ k223) (hts _ k27) (hts _ k28) rfl (by rw [hml]; exact hl.1) rfl dX2_init_1 (Nat.le_of_ble_eq_true rfl) (Nat.le_of_ble_eq_true rfl) ?_
  refine W.eq (g2 := F0 m 4 ls []) rfl ?_
  refine lv_aload_n hx hb dX2_init_4 rfl (lv_at hl 0 rfl) ?_
  refine lv_iconst (v := iZ 4) hx hb dX2_init_5 rfl ?_
  refine cz_new (h0 := (h0 + 48)) (atype := .int) (n := 1) (cA := cI) (N' := 4) (a0 := (4, .inl (fun _ => 0))) hx hb (hts _ k65) f1 hP (by decide) (by show_term (have zq71 : True := trivial; omega)) hS ((cwb_n (by decide) (by decide)).trans ((congrArg (sE cI cZ cII cIII h0 49) (sI_z (by decide))).trans (sE_49 _))) (fun _ => rfl) (by decide +kernel) (by decide +kernel) (Nat.le_of_ble_eq_true rfl) (Nat.le_of_ble_eq_true rfl) (Nat.le_of_ble_eq_true rfl) dX2_init_6 (fun H hP hS => ?_)
  refine W.widen (k := 1) (n := 4) (by show_term (have zq72 : True := trivial; omega)) (by show_term (have zq73 : True := trivial; omega)) ?_
  have hP : va_P (dC, dI) vwCl (fl (h0 + 48) 2 (cwb (fun k => sE cI cZ cII cIII h0 (48 + k) (fun x => iZ (sI (48 + k) x))) 2 [.null, .null, .null, .null, .null, .null, .int 0, .int 0, .null] 2 (qN cIII 5 (fun i => h0 + (80 + i * 6)) 0))) H := hP
  refine W.eq (g2 := F0 m 8 ls [.ref (h0 + 49), .ref (h0 + 48)]) rfl ?_
  refine va_putF (D := (dC, dI)) (ci := 2) (v := .ref (h0 + 49)) (ty := .array .int) (C := RX2) (T := TX2) (N := 9) hx hb hts inG2 tyX2 tyX2_ok nmX2 hown hK hP (fl_D (hAD 2 (by decide))) hS 0 (cwb_get (by decide)) rfl 0 (by decide) (hts _ k228) (fun _ h9 => h9) rfl hin rfl (by decide +kernel) rfl rfl (Nat.le_of_ble_eq_true rfl) dX2_init_8 (fun H locs hP _ hS => ?_)
  have hP : va_P (dC, dI) vwCl (fl (h0 + 48) 2 (cwb (fun k => sE cI cZ cII cIII h0 (48 + k) (fun x => iZ (sI (48 + k) x))) 2 [.ref (h0 + 49), .null, .null, .null, .null, .null, .int 0, .int 0, .null] 2 (qN cIII 5 (fun i => h0 + (80 + i * 6)) 0))) H := cwb_setP hP
  refine lv_aload_n hx hb dX2_init_11 rfl (lv_at hl 0 rfl) ?_
  refine lv_iconst (v := iZ 5) hx hb dX2_init_12 rfl ?_
  refine cz_anew (h0 := (h0 + 48)) (n := 2) (N' := 5) (g := (fun i => h0 + (80 + i * 6))) hx hb hown (hts _ k224) hEx.2.2.2 (hK.2 3 _ rfl).2 hP (by decide) (by show_term (have zq74 : True := trivial; omega)) hS (cwb_s (by decide)) (by decide +kernel) (by decide +kernel) (by decide) (Nat.le_of_ble_eq_true rfl) (Nat.le_of_ble_eq_true rfl) dX2_init_13 (fun H hP hS => ?_)
  refine W.widen (k := 2) (n := 9) (by show_term (have zq75 : True := trivial; omega)) (by show_term (have zq76 : True := trivial; omega)) ?_
  have hP : va_P (dC, dI) vwCl (fl (h0 + 48) 3 (cwb (fun k => sE cI cZ cII cIII h0 (48 + k) (fun x => iZ (sI (48 + k) x))) 2 [.ref (h0 + 49), .null, .null, .null, .null, .null, .int 0, .int 0, .null] 2 (qN cIII 5 (fun i => h0 + (80 + i * 6)) 0))) H := hP
  refine W.eq (g2 := F0 m 16 ls [.ref (h0 + 50), .ref (h0 + 48)]) rfl ?_
  refine va_putF (D := (dC, dI)) (ci := 2) (v := .ref (h0 + 50)) (ty := .array (.object "PageSkeleton$Row")) (C := RX2) (T := TX2) (N := 9) hx hb hts inG2 tyX2 tyX2_ok nmX2 hown hK hP (fl_D (hAD 3 (by decide))) hS 0 (cwb_get (by decide)) rfl 1 (by decide) (hts _ k229) (fun _ h9 => h9) rfl hin rfl (by decide +kernel) rfl rfl (Nat.le_of_ble_eq_true rfl) dX2_init_16 (fun H locs hP _ hS => ?_)
  have hP : va_P (dC, dI) vwCl (fl (h0 + 48) 3 (cwb (fun k => sE cI cZ cII cIII h0 (48 + k) (fun x => iZ (sI (48 + k) x))) 2 [.ref (h0 + 49), .ref (h0 + 50), .null, .null, .null, .null, .int 0, .int 0, .null] 2 (qN cIII 5 (fun i => h0 + (80 + i * 6)) 0))) H := cwb_setP hP
  refine lv_aload_n hx hb dX2_init_19 rfl (lv_at hl 0 rfl) ?_
  refine lv_iconst (v := iZ 5) hx hb dX2_init_20 rfl ?_
  refine cz_new (h0 := (h0 + 48)) (atype := .int) (n := 3) (cA := cI) (N' := 5) (a0 := (5, .inl (fun _ => 0))) hx hb (hts _ k65) f1 hP (by decide) (by show_term (have zq77 : True := trivial; omega)) hS ((cwb_n (by decide) (by decide)).trans ((congrArg (sE cI cZ cII cIII h0 51) (sI_z (by decide))).trans (sE_51 _))) (fun _ => rfl) (by decide +kernel) (by decide +kernel) (Nat.le_of_ble_eq_true rfl) (Nat.le_of_ble_eq_true rfl) (Nat.le_of_ble_eq_true rfl) dX2_init_21 (fun H hP hS => ?_)
  refine W.widen (k := 3) (n := 14) (by show_term (have zq78 : True := trivial; omega)) (by show_term (have zq79 : True := trivial; omega)) ?_
  have hP : va_P (dC, dI) vwCl (fl (h0 + 48) 4 (cwb (fun k => sE cI cZ cII cIII h0 (48 + k) (fun x => iZ (sI (48 + k) x))) 2 [.ref (h0 + 49), .ref (h0 + 50), .null, .null, .null, .null, .int 0, .int 0, .null] 2 (qN cIII 5 (fun i => h0 + (80 + i * 6)) 0))) H := hP
  refine W.eq (g2 := F0 m 23 ls [.ref (h0 + 51), .ref (h0 + 48)]) rfl ?_
  refine va_putF (D := (dC, dI)) (ci := 2) (v := .ref (h0 + 51)) (ty := .array .int) (C := RX2) (T := TX2) (N := 9) hx hb hts inG2 tyX2 tyX2_ok nmX2 hown hK hP (fl_D (hAD 4 (by decide))) hS 0 (cwb_get (by decide)) rfl 2 (by decide) (hts _ k230) (fun _ h9 => h9) rfl hin rfl (by decide +kernel) rfl rfl (Nat.le_of_ble_eq_true rfl) dX2_init_23 (fun H locs hP _ hS => ?_)
  have hP : va_P (dC, dI) vwCl (fl (h0 + 48) 4 (cwb (fun k => sE cI cZ cII cIII h0 (48 + k) (fun x => iZ (sI (48 + k) x))) 2 [.ref (h0 + 49), .ref (h0 + 50), .ref (h0 + 51), .null, .null, .null, .int 0, .int 0, .null] 2 (qN cIII 5 (fun i => h0 + (80 + i * 6)) 0))) H := cwb_setP hP
  refine lv_aload_n hx hb dX2_init_26 rfl (lv_at hl 0 rfl) ?_
  refine lv_bipush (v := iZ 24) hx hb dX2_init_27 rfl ?_
  refine lv_sipush (v := iZ 1100) hx hb dX2_init_29 rfl ?_
  refine cz_mn2 (h0 := (h0 + 48)) (n := 4) (cI := cI) (cII := cII) (N' := 24) (M' := 1100) (kc := 25) (ks := 26424) hx hb hown (hts _ k226) f1 f2 hT0 hP (by decide) (by show_term (have zq80 : True := trivial; omega)) hS (by decide +kernel) (by decide +kernel) (by decide +kernel) (Nat.eq_of_beq_eq_true rfl) (Nat.eq_of_beq_eq_true rfl) (Nat.le_of_ble_eq_true rfl) (Nat.le_of_ble_eq_true rfl) dX2_init_32 ((cwb_n (by decide) (by decide)).trans ((congrArg (sE cI cZ cII cIII h0 52) (sI_z (by decide))).trans (sE_52 _))) (fun i => by split <;> simp <;> show_term (have zq81 : True := trivial; omega)) (fun i hi => (cwb_n (by show_term (have zq82 : True := trivial; omega)) (by show_term (have zq83 : True := trivial; omega))).trans (by rw [show 48 + (4 + 1 + i) = 53 + i from by show_term (have zq84 : True := trivial; omega)]; exact (congrArg (sE cI cZ cII cIII h0 (53 + i)) (sI_z (by show_term (have zq85 : True := trivial; omega)))).trans (sE_ends hi _))) (fun H hP hS => ?_)
  refine W.widen (k := 28) (n := 26438) (by show_term (have zq86 : True := trivial; omega)) (by show_term (have zq87 : True := trivial; omega)) ?_
  have hP : va_P (dC, dI) vwCl (fl (h0 + 48) 29 (cwb (fun k => sE cI cZ cII cIII h0 (48 + k) (fun x => iZ (sI (48 + k) x))) 2 [.ref (h0 + 49), .ref (h0 + 50), .ref (h0 + 51), .null, .null, .null, .int 0, .int 0, .null] 2 (qN cIII 5 (fun i => h0 + (80 + i * 6)) 0))) H := hP
  refine W.eq (g2 := F0 m 36 ls [.ref (h0 + 52), .ref (h0 + 48)]) rfl ?_
  refine va_putF (D := (dC, dI)) (ci := 2) (v := .ref (h0 + 52)) (ty := .array (.array .int)) (C := RX2) (T := TX2) (N := 9) hx hb hts inG2 tyX2 tyX2_ok nmX2 hown hK hP (fl_D (hAD 29 (by decide))) hS 0 (cwb_get (by decide)) rfl 3 (by decide) (hts _ k231) (fun _ h9 => h9) rfl hin rfl (by decide +kernel) rfl rfl (Nat.le_of_ble_eq_true rfl) dX2_init_36 (fun H locs hP _ hS => ?_)
  have hP : va_P (dC, dI) vwCl (fl (h0 + 48) 29 (cwb (fun k => sE cI cZ cII cIII h0 (48 + k) (fun x => iZ (sI (48 + k) x))) 2 [.ref (h0 + 49), .ref (h0 + 50), .ref (h0 + 51), .ref (h0 + 52), .null, .null, .int 0, .int 0, .null] 2 (qN cIII 5 (fun i => h0 + (80 + i * 6)) 0))) H := cwb_setP hP
  refine lv_aload_n hx hb dX2_init_39 rfl (lv_at hl 0 rfl) ?_
  refine lv_bipush (v := iZ 24) hx hb dX2_init_40 rfl ?_
  refine cz_new (h0 := (h0 + 48)) (atype := .int) (n := 29) (cA := cI) (N' := 24) (a0 := (24, .inl (fun _ => 0))) hx hb (hts _ k65) f1 hP (by decide) (by show_term (have zq88 : True := trivial; omega)) hS ((cwb_n (by decide) (by decide)).trans ((congrArg (sE cI cZ cII cIII h0 77) (sI_z (by decide))).trans (sE_77 _))) (fun _ => rfl) (by decide +kernel) (by decide +kernel) (Nat.le_of_ble_eq_true rfl) (Nat.le_of_ble_eq_true rfl) (Nat.le_of_ble_eq_true rfl) dX2_init_42 (fun H hP hS => ?_)
  refine W.widen (k := 29) (n := 26462) (by show_term (have zq89 : True := trivial; omega)) (by show_term (have zq90 : True := trivial; omega)) ?_
  have hP : va_P (dC, dI) vwCl (fl (h0 + 48) 30 (cwb (fun k => sE cI cZ cII cIII h0 (48 + k) (fun x => iZ (sI (48 + k) x))) 2 [.ref (h0 + 49), .ref (h0 + 50), .ref (h0 + 51), .ref (h0 + 52), .null, .null, .int 0, .int 0, .null] 2 (qN cIII 5 (fun i => h0 + (80 + i * 6)) 0))) H := hP
  refine W.eq (g2 := F0 m 44 ls [.ref (h0 + 77), .ref (h0 + 48)]) rfl ?_
  refine va_putF (D := (dC, dI)) (ci := 2) (v := .ref (h0 + 77)) (ty := .array .int) (C := RX2) (T := TX2) (N := 9) hx hb hts inG2 tyX2 tyX2_ok nmX2 hown hK hP (fl_D (hAD 30 (by decide))) hS 0 (cwb_get (by decide)) rfl 4 (by decide) (hts _ k232) (fun _ h9 => h9) rfl hin rfl (by decide +kernel) rfl rfl (Nat.le_of_ble_eq_true rfl) dX2_init_44 (fun H locs hP _ hS => ?_)
  have hP : va_P (dC, dI) vwCl (fl (h0 + 48) 30 (cwb (fun k => sE cI cZ cII cIII h0 (48 + k) (fun x => iZ (sI (48 + k) x))) 2 [.ref (h0 + 49), .ref (h0 + 50), .ref (h0 + 51), .ref (h0 + 52), .ref (h0 + 77), .null, .int 0, .int 0, .null] 2 (qN cIII 5 (fun i => h0 + (80 + i * 6)) 0))) H := cwb_setP hP
  refine lv_aload_n hx hb dX2_init_47 rfl (lv_at hl 0 rfl) ?_
  refine lv_bipush (v := iZ 24) hx hb dX2_init_48 rfl ?_
  refine cz_new (h0 := (h0 + 48)) (atype := .int) (n := 30) (cA := cI) (N' := 24) (a0 := (24, .inl (fun _ => 0))) hx hb (hts _ k65) f1 hP (by decide) (by show_term (have zq91 : True := trivial; omega)) hS ((cwb_n (by decide) (by decide)).trans ((congrArg (sE cI cZ cII cIII h0 78) (sI_z (by decide))).trans (sE_78 _))) (fun _ => rfl) (by decide +kernel) (by decide +kernel) (Nat.le_of_ble_eq_true rfl) (Nat.le_of_ble_eq_true rfl) (Nat.le_of_ble_eq_true rfl) dX2_init_50 (fun H hP hS => ?_)
  refine W.widen (k := 30) (n := 26486) (by show_term (have zq92 : True := trivial; omega)) (by show_term (have zq93 : True := trivial; omega)) ?_
  have hP : va_P (dC, dI) vwCl (fl (h0 + 48) 31 (cwb (fun k => sE cI cZ cII cIII h0 (48 + k) (fun x => iZ (sI (48 + k) x))) 2 [.ref (h0 + 49), .ref (h0 + 50), .ref (h0 + 51), .ref (h0 + 52), .ref (h0 + 77), .null, .int 0, .int 0, .null] 2 (qN cIII 5 (fun i => h0 + (80 + i * 6)) 0))) H := hP
  refine W.eq (g2 := F0 m 52 ls [.ref (h0 + 78), .ref (h0 + 48)]) rfl ?_
  refine va_putF (D := (dC, dI)) (ci := 2) (v := .ref (h0 + 78)) (ty := .array .int) (C := RX2) (T := TX2) (N := 9) hx hb hts inG2 tyX2 tyX2_ok nmX2 hown hK hP (fl_D (hAD 31 (by decide))) hS 0 (cwb_get (by decide)) rfl 5 (by decide) (hts _ k233) (fun _ h9 => h9) rfl hin rfl (by decide +kernel) rfl rfl (Nat.le_of_ble_eq_true rfl) dX2_init_52 (fun H locs hP _ hS => ?_)
  have hP : va_P (dC, dI) vwCl (fl (h0 + 48) 31 (cwb (fun k => sE cI cZ cII cIII h0 (48 + k) (fun x => iZ (sI (48 + k) x))) 2 [.ref (h0 + 49), .ref (h0 + 50), .ref (h0 + 51), .ref (h0 + 52), .ref (h0 + 77), .ref (h0 + 78), .int 0, .int 0, .null] 2 (qN cIII 5 (fun i => h0 + (80 + i * 6)) 0))) H := cwb_setP hP
  refine lv_aload_n hx hb dX2_init_55 rfl (lv_at hl 0 rfl) ?_
  refine lv_iconst (v := iZ 0) hx hb dX2_init_56 rfl ?_
  refine va_put (D := (dC, dI)) (ci := 2) (v := .int (iZ 0)) (ty := .int) (C := RX2) (T := TX2) (N := 9) hx hb hts inG2 tyX2 tyX2_ok nmX2 hown hK hP (fl_D (hAD 31 (by decide))) hS 0 (cwb_get (by decide)) rfl 6 (by decide) (hts _ k234) (fun _ h9 => h9) rfl (by decide +kernel) rfl rfl (Nat.le_of_ble_eq_true rfl) dX2_init_57 (fun H locs hP _ hS => ?_)
  have hP : va_P (dC, dI) vwCl (fl (h0 + 48) 31 (cwb (fun k => sE cI cZ cII cIII h0 (48 + k) (fun x => iZ (sI (48 + k) x))) 2 [.ref (h0 + 49), .ref (h0 + 50), .ref (h0 + 51), .ref (h0 + 52), .ref (h0 + 77), .ref (h0 + 78), .int (iZ 0), .int 0, .null] 2 (qN cIII 5 (fun i => h0 + (80 + i * 6)) 0))) H := cwb_setP hP
  refine lv_aload_n hx hb dX2_init_60 rfl (lv_at hl 0 rfl) ?_
  refine lv_iconst (v := iZ 0) hx hb dX2_init_61 rfl ?_
  refine va_put (D := (dC, dI)) (ci := 2) (v := .int (iZ 0)) (ty := .int) (C := RX2) (T := TX2) (N := 9) hx hb hts inG2 tyX2 tyX2_ok nmX2 hown hK hP (fl_D (hAD 31 (by decide))) hS 0 (cwb_get (by decide)) rfl 7 (by decide) (hts _ k235) (fun _ h9 => h9) rfl (by decide +kernel) rfl rfl (Nat.le_of_ble_eq_true rfl) dX2_init_62 (fun H locs hP _ hS => ?_)
  have hP : va_P (dC, dI) vwCl (fl (h0 + 48) 31 (cwb (fun k => sE cI cZ cII cIII h0 (48 + k) (fun x => iZ (sI (48 + k) x))) 2 [.ref (h0 + 49), .ref (h0 + 50), .ref (h0 + 51), .ref (h0 + 52), .ref (h0 + 77), .ref (h0 + 78), .int (iZ 0), .int (iZ 0), .null] 2 (qN cIII 5 (fun i => h0 + (80 + i * 6)) 0))) H := cwb_setP hP
  refine lv_aload_n hx hb dX2_init_65 rfl (lv_at hl 0 rfl) ?_
  refine lv_iconst (v := iZ 4) hx hb dX2_init_66 rfl ?_
  refine cz_new (h0 := (h0 + 48)) (atype := .int) (n := 31) (cA := cI) (N' := 4) (a0 := (4, .inl (fun _ => 0))) hx hb (hts _ k65) f1 hP (by decide) (by show_term (have zq94 : True := trivial; omega)) hS ((cwb_n (by decide) (by decide)).trans ((congrArg (sE cI cZ cII cIII h0 79) (sI_z (by decide))).trans (sE_79 _))) (fun _ => rfl) (by decide +kernel) (by decide +kernel) (Nat.le_of_ble_eq_true rfl) (Nat.le_of_ble_eq_true rfl) (Nat.le_of_ble_eq_true rfl) dX2_init_67 (fun H hP hS => ?_)
  refine W.widen (k := 31) (n := 26490) (by show_term (have zq95 : True := trivial; omega)) (by show_term (have zq96 : True := trivial; omega)) ?_
  have hP : va_P (dC, dI) vwCl (fl (h0 + 48) 32 (cwb (fun k => sE cI cZ cII cIII h0 (48 + k) (fun x => iZ (sI (48 + k) x))) 2 [.ref (h0 + 49), .ref (h0 + 50), .ref (h0 + 51), .ref (h0 + 52), .ref (h0 + 77), .ref (h0 + 78), .int (iZ 0), .int (iZ 0), .null] 2 (qN cIII 5 (fun i => h0 + (80 + i * 6)) 0))) H := hP
  refine W.eq (g2 := F0 m 69 ls [.ref (h0 + 79), .ref (h0 + 48)]) rfl ?_
  refine va_putF (D := (dC, dI)) (ci := 2) (v := .ref (h0 + 79)) (ty := .array .int) (C := RX2) (T := TX2) (N := 9) hx hb hts inG2 tyX2 tyX2_ok nmX2 hown hK hP (fl_D (hAD 32 (by decide))) hS 0 (cwb_get (by decide)) rfl 8 (by decide) (hts _ k237) (fun _ h9 => h9) rfl hin rfl (by decide +kernel) rfl rfl (Nat.le_of_ble_eq_true rfl) dX2_init_69 (fun H locs hP _ hS => ?_)
  have hP : va_P (dC, dI) vwCl (fl (h0 + 48) 32 (cwb (fun k => sE cI cZ cII cIII h0 (48 + k) (fun x => iZ (sI (48 + k) x))) 2 [.ref (h0 + 49), .ref (h0 + 50), .ref (h0 + 51), .ref (h0 + 52), .ref (h0 + 77), .ref (h0 + 78), .int (iZ 0), .int (iZ 0), .ref (h0 + 79)] 2 (qN cIII 5 (fun i => h0 + (80 + i * 6)) 0))) H := cwb_setP hP
  refine lv_iconst (v := iZ 0) hx hb dX2_init_72 rfl ?_
  refine lv_istore_n (lv' := [(1, .int (iZ 0)), (0, .ref (h0 + 48))]) hx hb dX2_init_73 rfl hl (by decide) rfl (fun ls hl => ?_)
  refine lv_iload_n hx hb dX2_init_74 rfl (lv_at hl 0 rfl) ?_
  refine lv_iconst (v := iZ 4) hx hb dX2_init_75 rfl ?_
  refine lv_icmp_gt (tgt := 101) hx hb dX2_init_76 (by decide) (fun c9 => absurd c9 (by decide +kernel)) (fun _ => ?_)
  refine lv_aload_n hx hb dX2_init_79 rfl (lv_at hl 1 rfl) ?_
  refine va_get (D := (dC, dI)) (ci := 2) (v := .ref (h0 + 50)) (C := RX2) (T := TX2) (N := 9) hx hb hts inG2 hown hK hP 0 (cwb_get (by decide)) rfl 1 (by decide) (hts _ k229) (fun _ h9 => h9) rfl dX2_init_80 ?_
  refine lv_iload_n hx hb dX2_init_83 rfl (lv_at hl 0 rfl) ?_
  refine cz_obj (h0 := (h0 + 48)) (n := 32) (ci := 4) (fs := [.null, .null, .null, .null, .null, .int 0, .int 0, .int 0]) (C := RX4) (T := TX4) (N := 8) hx hb hts inG4 tyX4 tyX4_ok hown (hts _ k224) (hts _ k69) (hts _ k3) hK hP (by decide) (by show_term (have zq97 : True := trivial; omega)) hS rfl (fun j hj => by rcases (show j = 0 ∨ j = 1 ∨ j = 2 ∨ j = 3 ∨ j = 4 ∨ j = 5 ∨ j = 6 ∨ j = 7 by show_term (have zq98 : True := trivial; omega)) with rfl | rfl | rfl | rfl | rfl | rfl | rfl | rfl <;> rfl) (Nat.le_of_ble_eq_true rfl) (Nat.le_of_ble_eq_true rfl) dX2_init_84 (fun H hz9 hP hPo hS => ?_)
  refine W.widen (k := 32) (n := 26498) (by show_term (have zq99 : True := trivial; omega)) (by show_term (have zq100 : True := trivial; omega)) ?_
  refine W.eq (g2 := F0 m 87 ls [.ref (h0 + 80), .int (iZ 0), .ref (h0 + 50)]) rfl ?_
  refine lv_dup hx hb dX2_init_87 rfl ?_
  refine lv_sipush (v := iZ 1100) hx hb dX2_init_88 rfl ?_
  have hPc : va_P (dC, dI) vwCl (fl (h0 + 80) 1 (cwb (fun k => sE cI cZ cII cIII h0 (80 + k) (fun x => iZ (sI (80 + k) x))) 4 [.null, .null, .null, .null, .null, .int 0, .int 0, .int 0] 0 ((fun k => sE cI cZ cII cIII h0 (80 + k) (fun x => iZ (sI (80 + k) x))) 0))) H := fl_P (fun k hk => by obtain rfl : k = 0 := (by show_term (have zq101 : True := trivial; omega)); exact fl_at hPo hk)
  refine va_callv (va_runI (As := [.int (iZ 1100)]) (rest := [.ref (h0 + 80), .int (iZ 0), .ref (h0 + 50)]) ⟨hx, hb, hml, hown, hts⟩ (k_Row1100 l dC dI h0 cI cZ cII cIII (80) (rowB_80 (i := 0) (by decide))) (cwI 1 hts (gI_G k72) rfl rfl rfl (hts _ k3) (hts _ k227) (hts _ k71) rfl (by decide +kernel) ⟨Nat.le_of_ble_eq_true rfl, Nat.le_of_ble_eq_true rfl⟩) ⟨fun a U g mk q => by obtain ⟨q0, q1, qP, qK, qM⟩ := q; exact ⟨q0, q1, qP, va_K.moved (u := U) (U := U.calling g mk a) (Vm.Alike.refl U.vm) qK, qM⟩, fun U hU hW => ⟨rfl, by rw [hU]; exact hz9, by rw [hU]; exact hPc, va_K.moved hW.alike hK, (xN_warm hW hEx).2.1⟩⟩ rfl rfl hl.1 rfl (lv_room (Nat.le_of_ble_eq_true rfl)) dX2_init_91 ⟨Nat.le_of_ble_eq_true rfl, Nat.le_of_ble_eq_true rfl⟩) hS (fun q9 _ h9 => fA_sub (by show_term (have zq102 : True := trivial; omega)) q9 h9) (fA_sub (by show_term (have zq103 : True := trivial; omega))) (fun u9 t9 H1 locs ht9 hvm9 hw9 hB9 hz9 hk9 hS => ?_)
  obtain ⟨hP9, -⟩ := hB9
  rw [ht9] at hP9
  have hP := fl_called hP hk9 (by show_term (have zq104 : True := trivial; omega)) hP9 (fun k hk => (cwb_n (by show_term (have zq105 : True := trivial; omega)) (by show_term (have zq106 : True := trivial; omega))).trans (congrArg (fun z => sE cI cZ cII cIII h0 z (fun x => iZ (sI z x))) (by show_term (have zq107 : True := trivial; omega))))
  clear hPo hPc hk9 hP9 hz9
  generalize H1 = H at hP hS ⊢
  refine W.widen (k := 37) (n := 31999) (by show_term (have zq108 : True := trivial; omega)) (by show_term (have zq109 : True := trivial; omega)) ?_
  have hP : va_P (dC, dI) vwCl (fl (h0 + 48) 38 (cwb (fun k => sE cI cZ cII cIII h0 (48 + k) (fun x => iZ (sI (48 + k) x))) 2 [.ref (h0 + 49), .ref (h0 + 50), .ref (h0 + 51), .ref (h0 + 52), .ref (h0 + 77), .ref (h0 + 78), .int (iZ 0), .int (iZ 0), .ref (h0 + 79)] 2 (qN cIII 5 (fun i => h0 + (80 + i * 6)) 0))) H := hP
  refine W.eq (g2 := F0 m 94 ls [.ref ((h0 + 48) + 32), .int (iZ 0), .ref ((h0 + 48) + 2)]) rfl ?_
  refine cz_ast (a := (h0 + 48)) (n := 38) (ci := 2) (sp := 2) (N := 5) (j := 0) (k := 32) (ci2 := 4) (Rf := (fun k => sE cI cZ cII cIII h0 (48 + k) (fun x => iZ (sI (48 + k) x)))) (fs := [.ref (h0 + 49), .ref (h0 + 50), .ref (h0 + 51), .ref (h0 + 52), .ref (h0 + 77), .ref (h0 + 78), .int (iZ 0), .int (iZ 0), .ref (h0 + 79)]) (cA := cIII) (g := (fun i => h0 + (80 + i * 6))) (r := (RX4, TX4, 8)) hx hb hK hP (fl_D (hAD 38 (by decide))) hS 3 rfl (by decide) (sE_rowO (q := 80) (rowB_80 (i := 0) (by decide)) _) rfl (by decide +kernel) (by unfold vp_in; decide +kernel) rfl dX2_init_94 (fun H locs hP hS => ?_)
  have hP : va_P (dC, dI) vwCl (fl (h0 + 48) 38 (cwb (fun k => sE cI cZ cII cIII h0 (48 + k) (fun x => iZ (sI (48 + k) x))) 2 [.ref (h0 + 49), .ref (h0 + 50), .ref (h0 + 51), .ref (h0 + 52), .ref (h0 + 77), .ref (h0 + 78), .int (iZ 0), .int (iZ 0), .ref (h0 + 79)] 2 (qN cIII 5 (fun i => h0 + (80 + i * 6)) 1))) H := hP
  refine lv_iinc (v := iZ 1) (lv' := [(1, .int (iZ 1)), (0, .ref (h0 + 48))]) hx hb dX2_init_95 hl (k := 0) rfl (by decide +kernel) (by decide) rfl (fun ls hl => ?_)
  refine lv_goto (tgt := 74) hx hb dX2_init_98 (by decide) ?_
  refine lv_iload_n hx hb dX2_init_74 rfl (lv_at hl 0 rfl) ?_
  refine lv_iconst (v := iZ 4) hx hb dX2_init_75 rfl ?_
  refine lv_icmp_gt (tgt := 101) hx hb dX2_init_76 (by decide) (fun c9 => absurd c9 (by decide +kernel)) (fun _ => ?_)
  refine lv_aload_n hx hb dX2_init_79 rfl (lv_at hl 1 rfl) ?_
  refine va_get (D := (dC, dI)) (ci := 2) (v := .ref (h0 + 50)) (C := RX2) (T := TX2) (N := 9) hx hb hts inG2 hown hK hP 0 (cwb_get (by decide)) rfl 1 (by decide) (hts _ k229) (fun _ h9 => h9) rfl dX2_init_80 ?_
  refine lv_iload_n hx hb dX2_init_83 rfl (lv_at hl 0 rfl) ?_
  refine cz_obj (h0 := (h0 + 48)) (n := 38) (ci := 4) (fs := [.null, .null, .null, .null, .null, .int 0, .int 0, .int 0]) (C := RX4) (T := TX4) (N := 8) hx hb hts inG4 tyX4 tyX4_ok hown (hts _ k224) (hts _ k69) (hts _ k3) hK hP (by decide) (by show_term (have zq110 : True := trivial; omega)) hS rfl (fun j hj => by rcases (show j = 0 ∨ j = 1 ∨ j = 2 ∨ j = 3 ∨ j = 4 ∨ j = 5 ∨ j = 6 ∨ j = 7 by show_term (have zq111 : True := trivial; omega)) with rfl | rfl | rfl | rfl | rfl | rfl | rfl | rfl <;> rfl) (Nat.le_of_ble_eq_true rfl) (Nat.le_of_ble_eq_true rfl) dX2_init_84 (fun H hz9 hP hPo hS => ?_)
  refine W.widen (k := 38) (n := 32007) (by show_term (have zq112 : True := trivial; omega)) (by show_term (have zq113 : True := trivial; omega)) ?_
  refine W.eq (g2 := F0 m 87 ls [.ref (h0 + 86), .int (iZ 1), .ref (h0 + 50)]) rfl ?_
  refine lv_dup hx hb dX2_init_87 rfl ?_
  refine lv_sipush (v := iZ 1100) hx hb dX2_init_88 rfl ?_
  have hPc : va_P (dC, dI) vwCl (fl (h0 + 86) 1 (cwb (fun k => sE cI cZ cII cIII h0 (86 + k) (fun x => iZ (sI (86 + k) x))) 4 [.null, .null, .null, .null, .null, .int 0, .int 0, .int 0] 0 ((fun k => sE cI cZ cII cIII h0 (86 + k) (fun x => iZ (sI (86 + k) x))) 0))) H := fl_P (fun k hk => by obtain rfl : k = 0 := (by show_term (have zq114 : True := trivial; omega)); exact fl_at hPo hk)
  refine va_callv (va_runI (As := [.int (iZ 1100)]) (rest := [.ref (h0 + 86), .int (iZ 1), .ref (h0 + 50)]) ⟨hx, hb, hml, hown, hts⟩ (k_Row1100 l dC dI h0 cI cZ cII cIII (86) (rowB_80 (i := 1) (by decide))) (cwI 1 hts (gI_G k72) rfl rfl rfl (hts _ k3) (hts _ k227) (hts _ k71) rfl (by decide +kernel) ⟨Nat.le_of_ble_eq_true rfl, Nat.le_of_ble_eq_true rfl⟩) ⟨fun a U g mk q => by obtain ⟨q0, q1, qP, qK, qM⟩ := q; exact ⟨q0, q1, qP, va_K.moved (u := U) (U := U.calling g mk a) (Vm.Alike.refl U.vm) qK, qM⟩, fun U hU hW => ⟨rfl, by rw [hU]; exact hz9, by rw [hU]; exact hPc, va_K.moved hW.alike hK, (xN_warm hW hEx).2.1⟩⟩ rfl rfl hl.1 rfl (lv_room (Nat.le_of_ble_eq_true rfl)) dX2_init_91 ⟨Nat.le_of_ble_eq_true rfl, Nat.le_of_ble_eq_true rfl⟩) hS (fun q9 _ h9 => fA_sub (by show_term (have zq115 : True := trivial; omega)) q9 h9) (fA_sub (by show_term (have zq116 : True := trivial; omega))) (fun u9 t9 H1 locs ht9 hvm9 hw9 hB9 hz9 hk9 hS => ?_)
  obtain ⟨hP9, -⟩ := hB9
  rw [ht9] at hP9
  have hP := fl_called hP hk9 (by show_term (have zq117 : True := trivial; omega)) hP9 (fun k hk => (cwb_n (by show_term (have zq118 : True := trivial; omega)) (by show_term (have zq119 : True := trivial; omega))).trans (congrArg (fun z => sE cI cZ cII cIII h0 z (fun x => iZ (sI z x))) (by show_term (have zq120 : True := trivial; omega))))
  clear hPo hPc hk9 hP9 hz9
  generalize H1 = H at hP hS ⊢
  refine W.widen (k := 43) (n := 37508) (by show_term (have zq121 : True := trivial; omega)) (by show_term (have zq122 : True := trivial; omega)) ?_
  have hP : va_P (dC, dI) vwCl (fl (h0 + 48) 44 (cwb (fun k => sE cI cZ cII cIII h0 (48 + k) (fun x => iZ (sI (48 + k) x))) 2 [.ref (h0 + 49), .ref (h0 + 50), .ref (h0 + 51), .ref (h0 + 52), .ref (h0 + 77), .ref (h0 + 78), .int (iZ 0), .int (iZ 0), .ref (h0 + 79)] 2 (qN cIII 5 (fun i => h0 + (80 + i * 6)) 1))) H := hP
  refine W.eq (g2 := F0 m 94 ls [.ref ((h0 + 48) + 38), .int (iZ 1), .ref ((h0 + 48) + 2)]) rfl ?_
  refine cz_ast (a := (h0 + 48)) (n := 44) (ci := 2) (sp := 2) (N := 5) (j := 1) (k := 38) (ci2 := 4) (Rf := (fun k => sE cI cZ cII cIII h0 (48 + k) (fun x => iZ (sI (48 + k) x)))) (fs := [.ref (h0 + 49), .ref (h0 + 50), .ref (h0 + 51), .ref (h0 + 52), .ref (h0 + 77), .ref (h0 + 78), .int (iZ 0), .int (iZ 0), .ref (h0 + 79)]) (cA := cIII) (g := (fun i => h0 + (80 + i * 6))) (r := (RX4, TX4, 8)) hx hb hK hP (fl_D (hAD 44 (by decide))) hS 3 rfl (by decide) (sE_rowO (q := 86) (rowB_80 (i := 1) (by decide)) _) rfl (by decide +kernel) (by unfold vp_in; decide +kernel) rfl dX2_init_94 (fun H locs hP hS => ?_)
  have hP : va_P (dC, dI) vwCl (fl (h0 + 48) 44 (cwb (fun k => sE cI cZ cII cIII h0 (48 + k) (fun x => iZ (sI (48 + k) x))) 2 [.ref (h0 + 49), .ref (h0 + 50), .ref (h0 + 51), .ref (h0 + 52), .ref (h0 + 77), .ref (h0 + 78), .int (iZ 0), .int (iZ 0), .ref (h0 + 79)] 2 (qN cIII 5 (fun i => h0 + (80 + i * 6)) 2))) H := hP
  refine lv_iinc (v := iZ 2) (lv' := [(1, .int (iZ 2)), (0, .ref (h0 + 48))]) hx hb dX2_init_95 hl (k := 0) rfl (by decide +kernel) (by decide) rfl (fun ls hl => ?_)
  refine lv_goto (tgt := 74) hx hb dX2_init_98 (by decide) ?_
  refine lv_iload_n hx hb dX2_init_74 rfl (lv_at hl 0 rfl) ?_
  refine lv_iconst (v := iZ 4) hx hb dX2_init_75 rfl ?_
  refine lv_icmp_gt (tgt := 101) hx hb dX2_init_76 (by decide) (fun c9 => absurd c9 (by decide +kernel)) (fun _ => ?_)
  refine lv_aload_n hx hb dX2_init_79 rfl (lv_at hl 1 rfl) ?_
  refine va_get (D := (dC, dI)) (ci := 2) (v := .ref (h0 + 50)) (C := RX2) (T := TX2) (N := 9) hx hb hts inG2 hown hK hP 0 (cwb_get (by decide)) rfl 1 (by decide) (hts _ k229) (fun _ h9 => h9) rfl dX2_init_80 ?_
  refine lv_iload_n hx hb dX2_init_83 rfl (lv_at hl 0 rfl) ?_
  refine cz_obj (h0 := (h0 + 48)) (n := 44) (ci := 4) (fs := [.null, .null, .null, .null, .null, .int 0, .int 0, .int 0]) (C := RX4) (T := TX4) (N := 8) hx hb hts inG4 tyX4 tyX4_ok hown (hts _ k224) (hts _ k69) (hts _ k3) hK hP (by decide) (by show_term (have zq123 : True := trivial; omega)) hS rfl (fun j hj => by rcases (show j = 0 ∨ j = 1 ∨ j = 2 ∨ j = 3 ∨ j = 4 ∨ j = 5 ∨ j = 6 ∨ j = 7 by show_term (have zq124 : True := trivial; omega)) with rfl | rfl | rfl | rfl | rfl | rfl | rfl | rfl <;> rfl) (Nat.le_of_ble_eq_true rfl) (Nat.le_of_ble_eq_true rfl) dX2_init_84 (fun H hz9 hP hPo hS => ?_)
  refine W.widen (k := 44) (n := 37516) (by show_term (have zq125 : True := trivial; omega)) (by show_term (have zq126 : True := trivial; omega)) ?_
  refine W.eq (g2 := F0 m 87 ls [.ref (h0 + 92), .int (iZ 2), .ref (h0 + 50)]) rfl ?_
  refine lv_dup hx hb dX2_init_87 rfl ?_
  refine lv_sipush (v := iZ 1100) hx hb dX2_init_88 rfl ?_
  have hPc : va_P (dC, dI) vwCl (fl (h0 + 92) 1 (cwb (fun k => sE cI cZ cII cIII h0 (92 + k) (fun x => iZ (sI (92 + k) x))) 4 [.null, .null, .null, .null, .null, .int 0, .int 0, .int 0] 0 ((fun k => sE cI cZ cII cIII h0 (92 + k) (fun x => iZ (sI (92 + k) x))) 0))) H := fl_P (fun k hk => by obtain rfl : k = 0 := (by show_term (have zq127 : True := trivial; omega)); exact fl_at hPo hk)
  refine va_callv (va_runI (As := [.int (iZ 1100)]) (rest := [.ref (h0 + 92), .int (iZ 2), .ref (h0 + 50)]) ⟨hx, hb, hml, hown, hts⟩ (k_Row1100 l dC dI h0 cI cZ cII cIII (92) (rowB_80 (i := 2) (by decide))) (cwI 1 hts (gI_G k72) rfl rfl rfl (hts _ k3) (hts _ k227) (hts _ k71) rfl (by decide +kernel) ⟨Nat.le_of_ble_eq_true rfl, Nat.le_of_ble_eq_true rfl⟩) ⟨fun a U g mk q => by obtain ⟨q0, q1, qP, qK, qM⟩ := q; exact ⟨q0, q1, qP, va_K.moved (u := U) (U := U.calling g mk a) (Vm.Alike.refl U.vm) qK, qM⟩, fun U hU hW => ⟨rfl, by rw [hU]; exact hz9, by rw [hU]; exact hPc, va_K.moved hW.alike hK, (xN_warm hW hEx).2.1⟩⟩ rfl rfl hl.1 rfl (lv_room (Nat.le_of_ble_eq_true rfl)) dX2_init_91 ⟨Nat.le_of_ble_eq_true rfl, Nat.le_of_ble_eq_true rfl⟩) hS (fun q9 _ h9 => fA_sub (by show_term (have zq128 : True := trivial; omega)) q9 h9) (fA_sub (by show_term (have zq129 : True := trivial; omega))) (fun u9 t9 H1 locs ht9 hvm9 hw9 hB9 hz9 hk9 hS => ?_)
  obtain ⟨hP9, -⟩ := hB9
  rw [ht9] at hP9
  have hP := fl_called hP hk9 (by show_term (have zq130 : True := trivial; omega)) hP9 (fun k hk => (cwb_n (by show_term (have zq131 : True := trivial; omega)) (by show_term (have zq132 : True := trivial; omega))).trans (congrArg (fun z => sE cI cZ cII cIII h0 z (fun x => iZ (sI z x))) (by show_term (have zq133 : True := trivial; omega))))
  clear hPo hPc hk9 hP9 hz9
  generalize H1 = H at hP hS ⊢
  refine W.widen (k := 49) (n := 43017) (by show_term (have zq134 : True := trivial; omega)) (by show_term (have zq135 : True := trivial; omega)) ?_
  have hP : va_P (dC, dI) vwCl (fl (h0 + 48) 50 (cwb (fun k => sE cI cZ cII cIII h0 (48 + k) (fun x => iZ (sI (48 + k) x))) 2 [.ref (h0 + 49), .ref (h0 + 50), .ref (h0 + 51), .ref (h0 + 52), .ref (h0 + 77), .ref (h0 + 78), .int (iZ 0), .int (iZ 0), .ref (h0 + 79)] 2 (qN cIII 5 (fun i => h0 + (80 + i * 6)) 2))) H := hP
  refine W.eq (g2 := F0 m 94 ls [.ref ((h0 + 48) + 44), .int (iZ 2), .ref ((h0 + 48) + 2)]) rfl ?_
  refine cz_ast (a := (h0 + 48)) (n := 50) (ci := 2) (sp := 2) (N := 5) (j := 2) (k := 44) (ci2 := 4) (Rf := (fun k => sE cI cZ cII cIII h0 (48 + k) (fun x => iZ (sI (48 + k) x)))) (fs := [.ref (h0 + 49), .ref (h0 + 50), .ref (h0 + 51), .ref (h0 + 52), .ref (h0 + 77), .ref (h0 + 78), .int (iZ 0), .int (iZ 0), .ref (h0 + 79)]) (cA := cIII) (g := (fun i => h0 + (80 + i * 6))) (r := (RX4, TX4, 8)) hx hb hK hP (fl_D (hAD 50 (by decide))) hS 3 rfl (by decide) (sE_rowO (q := 92) (rowB_80 (i := 2) (by decide)) _) rfl (by decide +kernel) (by unfold vp_in; decide +kernel) rfl dX2_init_94 (fun H locs hP hS => ?_)
  have hP : va_P (dC, dI) vwCl (fl (h0 + 48) 50 (cwb (fun k => sE cI cZ cII cIII h0 (48 + k) (fun x => iZ (sI (48 + k) x))) 2 [.ref (h0 + 49), .ref (h0 + 50), .ref (h0 + 51), .ref (h0 + 52), .ref (h0 + 77), .ref (h0 + 78), .int (iZ 0), .int (iZ 0), .ref (h0 + 79)] 2 (qN cIII 5 (fun i => h0 + (80 + i * 6)) 3))) H := hP
  refine lv_iinc (v := iZ 3) (lv' := [(1, .int (iZ 3)), (0, .ref (h0 + 48))]) hx hb dX2_init_95 hl (k := 0) rfl (by decide +kernel) (by decide) rfl (fun ls hl => ?_)
  refine lv_goto (tgt := 74) hx hb dX2_init_98 (by decide) ?_
  refine lv_iload_n hx hb dX2_init_74 rfl (lv_at hl 0 rfl) ?_
  refine lv_iconst (v := iZ 4) hx hb dX2_init_75 rfl ?_
  refine lv_icmp_gt (tgt := 101) hx hb dX2_init_76 (by decide) (fun c9 => absurd c9 (by decide +kernel)) (fun _ => ?_)
  refine lv_aload_n hx hb dX2_init_79 rfl (lv_at hl 1 rfl) ?_
  refine va_get (D := (dC, dI)) (ci := 2) (v := .ref (h0 + 50)) (C := RX2) (T := TX2) (N := 9) hx hb hts inG2 hown hK hP 0 (cwb_get (by decide)) rfl 1 (by decide) (hts _ k229) (fun _ h9 => h9) rfl dX2_init_80 ?_
  refine lv_iload_n hx hb dX2_init_83 rfl (lv_at hl 0 rfl) ?_
  refine cz_obj (h0 := (h0 + 48)) (n := 50) (ci := 4) (fs := [.null, .null, .null, .null, .null, .int 0, .int 0, .int 0]) (C := RX4) (T := TX4) (N := 8) hx hb hts inG4 tyX4 tyX4_ok hown (hts _ k224) (hts _ k69) (hts _ k3) hK hP (by decide) (by show_term (have zq136 : True := trivial; omega)) hS rfl (fun j hj => by rcases (show j = 0 ∨ j = 1 ∨ j = 2 ∨ j = 3 ∨ j = 4 ∨ j = 5 ∨ j = 6 ∨ j = 7 by show_term (have zq137 : True := trivial; omega)) with rfl | rfl | rfl | rfl | rfl | rfl | rfl | rfl <;> rfl) (Nat.le_of_ble_eq_true rfl) (Nat.le_of_ble_eq_true rfl) dX2_init_84 (fun H hz9 hP hPo hS => ?_)
  refine W.widen (k := 50) (n := 43025) (by show_term (have zq138 : True := trivial; omega)) (by show_term (have zq139 : True := trivial; omega)) ?_
  refine W.eq (g2 := F0 m 87 ls [.ref (h0 + 98), .int (iZ 3), .ref (h0 + 50)]) rfl ?_
  refine lv_dup hx hb dX2_init_87 rfl ?_
  refine lv_sipush (v := iZ 1100) hx hb dX2_init_88 rfl ?_
  have hPc : va_P (dC, dI) vwCl (fl (h0 + 98) 1 (cwb (fun k => sE cI cZ cII cIII h0 (98 + k) (fun x => iZ (sI (98 + k) x))) 4 [.null, .null, .null, .null, .null, .int 0, .int 0, .int 0] 0 ((fun k => sE cI cZ cII cIII h0 (98 + k) (fun x => iZ (sI (98 + k) x))) 0))) H := fl_P (fun k hk => by obtain rfl : k = 0 := (by show_term (have zq140 : True := trivial; omega)); exact fl_at hPo hk)
  refine va_callv (va_runI (As := [.int (iZ 1100)]) (rest := [.ref (h0 + 98), .int (iZ 3), .ref (h0 + 50)]) ⟨hx, hb, hml, hown, hts⟩ (k_Row1100 l dC dI h0 cI cZ cII cIII (98) (rowB_80 (i := 3) (by decide))) (cwI 1 hts (gI_G k72) rfl rfl rfl (hts _ k3) (hts _ k227) (hts _ k71) rfl (by decide +kernel) ⟨Nat.le_of_ble_eq_true rfl, Nat.le_of_ble_eq_true rfl⟩) ⟨fun a U g mk q => by obtain ⟨q0, q1, qP, qK, qM⟩ := q; exact ⟨q0, q1, qP, va_K.moved (u := U) (U := U.calling g mk a) (Vm.Alike.refl U.vm) qK, qM⟩, fun U hU hW => ⟨rfl, by rw [hU]; exact hz9, by rw [hU]; exact hPc, va_K.moved hW.alike hK, (xN_warm hW hEx).2.1⟩⟩ rfl rfl hl.1 rfl (lv_room (Nat.le_of_ble_eq_true rfl)) dX2_init_91 ⟨Nat.le_of_ble_eq_true rfl, Nat.le_of_ble_eq_true rfl⟩) hS (fun q9 _ h9 => fA_sub (by show_term (have zq141 : True := trivial; omega)) q9 h9) (fA_sub (by show_term (have zq142 : True := trivial; omega))) (fun u9 t9 H1 locs ht9 hvm9 hw9 hB9 hz9 hk9 hS => ?_)
  obtain ⟨hP9, -⟩ := hB9
  rw [ht9] at hP9
  have hP := fl_called hP hk9 (by show_term (have zq143 : True := trivial; omega)) hP9 (fun k hk => (cwb_n (by show_term (have zq144 : True := trivial; omega)) (by show_term (have zq145 : True := trivial; omega))).trans (congrArg (fun z => sE cI cZ cII cIII h0 z (fun x => iZ (sI z x))) (by show_term (have zq146 : True := trivial; omega))))
  clear hPo hPc hk9 hP9 hz9
  generalize H1 = H at hP hS ⊢
  refine W.widen (k := 55) (n := 48526) (by show_term (have zq147 : True := trivial; omega)) (by show_term (have zq148 : True := trivial; omega)) ?_
  have hP : va_P (dC, dI) vwCl (fl (h0 + 48) 56 (cwb (fun k => sE cI cZ cII cIII h0 (48 + k) (fun x => iZ (sI (48 + k) x))) 2 [.ref (h0 + 49), .ref (h0 + 50), .ref (h0 + 51), .ref (h0 + 52), .ref (h0 + 77), .ref (h0 + 78), .int (iZ 0), .int (iZ 0), .ref (h0 + 79)] 2 (qN cIII 5 (fun i => h0 + (80 + i * 6)) 3))) H := hP
  refine W.eq (g2 := F0 m 94 ls [.ref ((h0 + 48) + 50), .int (iZ 3), .ref ((h0 + 48) + 2)]) rfl ?_
  refine cz_ast (a := (h0 + 48)) (n := 56) (ci := 2) (sp := 2) (N := 5) (j := 3) (k := 50) (ci2 := 4) (Rf := (fun k => sE cI cZ cII cIII h0 (48 + k) (fun x => iZ (sI (48 + k) x)))) (fs := [.ref (h0 + 49), .ref (h0 + 50), .ref (h0 + 51), .ref (h0 + 52), .ref (h0 + 77), .ref (h0 + 78), .int (iZ 0), .int (iZ 0), .ref (h0 + 79)]) (cA := cIII) (g := (fun i => h0 + (80 + i * 6))) (r := (RX4, TX4, 8)) hx hb hK hP (fl_D (hAD 56 (by decide))) hS 3 rfl (by decide) (sE_rowO (q := 98) (rowB_80 (i := 3) (by decide)) _) rfl (by decide +kernel) (by unfold vp_in; decide +kernel) rfl dX2_init_94 (fun H locs hP hS => ?_)
  have hP : va_P (dC, dI) vwCl (fl (h0 + 48) 56 (cwb (fun k => sE cI cZ cII cIII h0 (48 + k) (fun x => iZ (sI (48 + k) x))) 2 [.ref (h0 + 49), .ref (h0 + 50), .ref (h0 + 51), .ref (h0 + 52), .ref (h0 + 77), .ref (h0 + 78), .int (iZ 0), .int (iZ 0), .ref (h0 + 79)] 2 (qN cIII 5 (fun i => h0 + (80 + i * 6)) 4))) H := hP
  refine lv_iinc (v := iZ 4) (lv' := [(1, .int (iZ 4)), (0, .ref (h0 + 48))]) hx hb dX2_init_95 hl (k := 0) rfl (by decide +kernel) (by decide) rfl (fun ls hl => ?_)
  refine lv_goto (tgt := 74) hx hb dX2_init_98 (by decide) ?_
  refine lv_iload_n hx hb dX2_init_74 rfl (lv_at hl 0 rfl) ?_
  refine lv_iconst (v := iZ 4) hx hb dX2_init_75 rfl ?_
  refine lv_icmp_gt (tgt := 101) hx hb dX2_init_76 (by decide) (fun c9 => absurd c9 (by decide +kernel)) (fun _ => ?_)
  refine lv_aload_n hx hb dX2_init_79 rfl (lv_at hl 1 rfl) ?_
  refine va_get (D := (dC, dI)) (ci := 2) (v := .ref (h0 + 50)) (C := RX2) (T := TX2) (N := 9) hx hb hts inG2 hown hK hP 0 (cwb_get (by decide)) rfl 1 (by decide) (hts _ k229) (fun _ h9 => h9) rfl dX2_init_80 ?_
  refine lv_iload_n hx hb dX2_init_83 rfl (lv_at hl 0 rfl) ?_
  refine cz_obj (h0 := (h0 + 48)) (n := 56) (ci := 4) (fs := [.null, .null, .null, .null, .null, .int 0, .int 0, .int 0]) (C := RX4) (T := TX4) (N := 8) hx hb hts inG4 tyX4 tyX4_ok hown (hts _ k224) (hts _ k69) (hts _ k3) hK hP (by decide) (by show_term (have zq149 : True := trivial; omega)) hS rfl (fun j hj => by rcases (show j = 0 ∨ j = 1 ∨ j = 2 ∨ j = 3 ∨ j = 4 ∨ j = 5 ∨ j = 6 ∨ j = 7 by show_term (have zq150 : True := trivial; omega)) with rfl | rfl | rfl | rfl | rfl | rfl | rfl | rfl <;> rfl) (Nat.le_of_ble_eq_true rfl) (Nat.le_of_ble_eq_true rfl) dX2_init_84 (fun H hz9 hP hPo hS => ?_)
  refine W.widen (k := 56) (n := 48534) (by show_term (have zq151 : True := trivial; omega)) (by show_term (have zq152 : True := trivial; omega)) ?_
  refine W.eq (g2 := F0 m 87 ls [.ref (h0 + 104), .int (iZ 4), .ref (h0 + 50)]) rfl ?_
  refine lv_dup hx hb dX2_init_87 rfl ?_
  refine lv_sipush (v := iZ 1100) hx hb dX2_init_88 rfl ?_
  have hPc : va_P (dC, dI) vwCl (fl (h0 + 104) 1 (cwb (fun k => sE cI cZ cII cIII h0 (104 + k) (fun x => iZ (sI (104 + k) x))) 4 [.null, .null, .null, .null, .null, .int 0, .int 0, .int 0] 0 ((fun k => sE cI cZ cII cIII h0 (104 + k) (fun x => iZ (sI (104 + k) x))) 0))) H := fl_P (fun k hk => by obtain rfl : k = 0 := (by show_term (have zq153 : True := trivial; omega)); exact fl_at hPo hk)
  refine va_callv (va_runI (As := [.int (iZ 1100)]) (rest := [.ref (h0 + 104), .int (iZ 4), .ref (h0 + 50)]) ⟨hx, hb, hml, hown, hts⟩ (k_Row1100 l dC dI h0 cI cZ cII cIII (104) (rowB_80 (i := 4) (by decide))) (cwI 1 hts (gI_G k72) rfl rfl rfl (hts _ k3) (hts _ k227) (hts _ k71) rfl (by decide +kernel) ⟨Nat.le_of_ble_eq_true rfl, Nat.le_of_ble_eq_true rfl⟩) ⟨fun a U g mk q => by obtain ⟨q0, q1, qP, qK, qM⟩ := q; exact ⟨q0, q1, qP, va_K.moved (u := U) (U := U.calling g mk a) (Vm.Alike.refl U.vm) qK, qM⟩, fun U hU hW => ⟨rfl, by rw [hU]; exact hz9, by rw [hU]; exact hPc, va_K.moved hW.alike hK, (xN_warm hW hEx).2.1⟩⟩ rfl rfl hl.1 rfl (lv_room (Nat.le_of_ble_eq_true rfl)) dX2_init_91 ⟨Nat.le_of_ble_eq_true rfl, Nat.le_of_ble_eq_true rfl⟩) hS (fun q9 _ h9 => fA_sub (by show_term (have zq154 : True := trivial; omega)) q9 h9) (fA_sub (by show_term (have zq155 : True := trivial; omega))) (fun u9 t9 H1 locs ht9 hvm9 hw9 hB9 hz9 hk9 hS => ?_)
  obtain ⟨hP9, -⟩ := hB9
  rw [ht9] at hP9
  have hP := fl_called hP hk9 (by show_term (have zq156 : True := trivial; omega)) hP9 (fun k hk => (cwb_n (by show_term (have zq157 : True := trivial; omega)) (by show_term (have zq158 : True := trivial; omega))).trans (congrArg (fun z => sE cI cZ cII cIII h0 z (fun x => iZ (sI z x))) (by show_term (have zq159 : True := trivial; omega))))
  clear hPo hPc hk9 hP9 hz9
  generalize H1 = H at hP hS ⊢
  refine W.widen (k := 61) (n := 54035) (by show_term (have zq160 : True := trivial; omega)) (by show_term (have zq161 : True := trivial; omega)) ?_
  have hP : va_P (dC, dI) vwCl (fl (h0 + 48) 62 (cwb (fun k => sE cI cZ cII cIII h0 (48 + k) (fun x => iZ (sI (48 + k) x))) 2 [.ref (h0 + 49), .ref (h0 + 50), .ref (h0 + 51), .ref (h0 + 52), .ref (h0 + 77), .ref (h0 + 78), .int (iZ 0), .int (iZ 0), .ref (h0 + 79)] 2 (qN cIII 5 (fun i => h0 + (80 + i * 6)) 4))) H := hP
  refine W.eq (g2 := F0 m 94 ls [.ref ((h0 + 48) + 56), .int (iZ 4), .ref ((h0 + 48) + 2)]) rfl ?_
  refine cz_ast (a := (h0 + 48)) (n := 62) (ci := 2) (sp := 2) (N := 5) (j := 4) (k := 56) (ci2 := 4) (Rf := (fun k => sE cI cZ cII cIII h0 (48 + k) (fun x => iZ (sI (48 + k) x)))) (fs := [.ref (h0 + 49), .ref (h0 + 50), .ref (h0 + 51), .ref (h0 + 52), .ref (h0 + 77), .ref (h0 + 78), .int (iZ 0), .int (iZ 0), .ref (h0 + 79)]) (cA := cIII) (g := (fun i => h0 + (80 + i * 6))) (r := (RX4, TX4, 8)) hx hb hK hP (fl_D (hAD 62 (by decide))) hS 3 rfl (by decide) (sE_rowO (q := 104) (rowB_80 (i := 4) (by decide)) _) rfl (by decide +kernel) (by unfold vp_in; decide +kernel) rfl dX2_init_94 (fun H locs hP hS => ?_)
  have hP : va_P (dC, dI) vwCl (fl (h0 + 48) 62 (cwb (fun k => sE cI cZ cII cIII h0 (48 + k) (fun x => iZ (sI (48 + k) x))) 2 [.ref (h0 + 49), .ref (h0 + 50), .ref (h0 + 51), .ref (h0 + 52), .ref (h0 + 77), .ref (h0 + 78), .int (iZ 0), .int (iZ 0), .ref (h0 + 79)] 2 (qN cIII 5 (fun i => h0 + (80 + i * 6)) 5))) H := hP
  refine lv_iinc (v := iZ 5) (lv' := [(1, .int (iZ 5)), (0, .ref (h0 + 48))]) hx hb dX2_init_95 hl (k := 0) rfl (by decide +kernel) (by decide) rfl (fun ls hl => ?_)
  refine lv_goto (tgt := 74) hx hb dX2_init_98 (by decide) ?_
  refine lv_iload_n hx hb dX2_init_74 rfl (lv_at hl 0 rfl) ?_
  refine lv_iconst (v := iZ 4) hx hb dX2_init_75 rfl ?_
  refine lv_icmp_gt (tgt := 101) hx hb dX2_init_76 (by decide) (fun _ => ?_) (fun c9 => absurd (by decide +kernel) c9)
  have hPf : va_P (dC, dI) vwCl (fl (h0 + 48) 62 (fun k => sE cI cZ cII cIII h0 (48 + k) (fun x => iZ (sI (48 + k) x)))) H := fl_eq hP (fun k hk => cwb_e2 (Rf := (fun k => sE cI cZ cII cIII h0 (48 + k) (fun x => iZ (sI (48 + k) x)))) (by decide) (rfl) (rfl) k)
  exact W.vret hx hb hr (fun t ht hW => ⟨⟨(), rfl, trivial, by rw [ht]; exact hPf, va_K.moved hW.alike hK⟩, hS.F ht⟩) hS.2.2 dX2_init_101
set_option maxHeartbeats 4000000 in
set_option maxRecDepth 100000 in
theorem k_X9 (l : Launch) (dC : Nat → ClassId) (dI : Nat → Nat → Nat) (h0 : Nat) (cI cZ cII cIII : ClassId)  : Met l yX9_init (Cond.code yX9_init cX9_init 2 none :: wsG) ({ frames := 3, cells := 232, slots := 288116, locals := 64 } : Room) (va_Pc [.ref h0] (fun U => U.heap.size = h0 + 1 ∧ va_P (dC, dI) vwCl (fl h0 1 (fun _ => .inr (9, [.null, .null, .int 0, .null, .null, .int 0, .int 0, .null, .null, .null, .null, .null, .null, .null, .null]))) U.heap ∧ va_K (dC, dI) vwCl (sT cI cZ cII cIII) U ∧ xN U ∧ xM U)) (va_Qv (fun (u : va_M) => fr (fun x _ => x = 110) sI u ∧ ∀ j : Nat, j < 60 → u 110 j = 516) (fun u t => va_P (dC, dI) vwCl (fw (sE cI cZ cII cIII h0) h0 233 u) t.heap ∧ va_K (dC, dI) vwCl (sT cI cZ cII cIII) t) (fA h0 233 (h0 + 1))) 232 288116 (fA h0 233 (h0 + 1)) := by
  refine Met.ofW (cc := cX9_init) (maxL := 2) (ret := none) (by decide) rfl ?_
  intro p e s m args below meth c s₁ B hml hv
  obtain ⟨rfl, hsz, hP, hK, hEx, hM⟩ := hv
  have hT0 := hEx.2.1
  have hx := B.exec
  have hb := B.bytes
  have hr := B.returns
  have hts : ∀ w ∈ wsG, w.before _ s = true := hG_of (atoms_spec (ws := (Cond.code yX9_init cX9_init 2 none :: wsG)) B.pre)
  have hown : s.vm.findClass RX9 = some m.cls := findClass_of_methodNamed B.named
  have hlocks := B.notSynchronized
  have hin : meth.name = "<init>" := (name_of_methodNamed B.named B.method).1
  have f1 := va_RA_int (hK.2 0 _ rfl).2
  have f2 := va_RA_int2 (hK.2 2 _ rfl).2
  have hS : va_S (fA h0 233 (h0 + 1)) s.heap s.heap [] := va_S.rf
  have hAD : ∀ n, n ≤ 233 → ∀ k, k < n → (fA h0 233 (h0 + 1)) (h0 + k) := fun n hn k hk => fA_in k (Nat.lt_of_lt_of_le hk hn)
  have hl := lv_entry ([.ref h0]) (n := 2) (Nat.le_of_ble_eq_true rfl)
  rw [lg_entry_eq]
  generalize (lg_sl ([.ref h0]) ++ List.replicate (2 - (lg_sl ([.ref h0])).length) Slot.unset).toArray = ls at hl ⊢
  have hl : lv_has ls 2 [(0, .ref h0)] := hl
  have hP : va_P (dC, dI) vwCl (fl h0 1 (cwb (fun k => sE cI cZ cII cIII h0 k (fun x => iZ (sI k x))) 9 [.null, .null, .int 0, .null, .null, .int 0, .int 0, .null, .null, .null, .null, .null, .null, .null, .null] 5 (qN cZ 8 (fun i => h0 + (113 + i * 15)) 0))) s.heap := fl_P (fun k hk => by obtain rfl : k = 0 := (by show_term (have zq162 : True := trivial; omega)); exact fl_at hP hk)
  refine lv_aload_n hx hb dX9_init_0 rfl (lv_at hl 0 rfl) ?_
  refine W.objInit hx hb hown (hts _ k26) (hts _ k27) (hts _ k28) rfl (by rw [hml]; exact hl.1) rfl dX9_init_1 (Nat.le_of_ble_eq_true rfl) (Nat.le_of_ble_eq_true rfl) ?_
  refine W.eq (g2 := F0 m 4 ls []) rfl ?_
  refine lv_aload_n hx hb dX9_init_4 rfl (lv_at hl 0 rfl) ?_
  refine cz_obj (h0 := h0) (n := 1) (ci := 5) (fs := [.null, .int 0, .null, .int 0, .null, .int 0, .int 0, .int 0]) (C := RX5) (T := TX5) (N := 8) hx hb hts inG5 tyX5 tyX5_ok hown (hts _ k29) (hts _ k30) (hts _ k2) hK hP (by decide) (by show_term (have zq163 : True := trivial; omega)) hS rfl (fun j hj => by rcases (show j = 0 ∨ j = 1 ∨ j = 2 ∨ j = 3 ∨ j = 4 ∨ j = 5 ∨ j = 6 ∨ j = 7 by show_term (have zq164 : True := trivial; omega)) with rfl | rfl | rfl | rfl | rfl | rfl | rfl | rfl <;> rfl) (Nat.le_of_ble_eq_true rfl) (Nat.le_of_ble_eq_true rfl) dX9_init_5 (fun H hz9 hP hPo hS => ?_)
  refine W.widen (k := 1) (n := 8) (by show_term (have zq165 : True := trivial; omega)) (by show_term (have zq166 : True := trivial; omega)) ?_
  refine W.eq (g2 := F0 m 8 ls [.ref (h0 + 1), .ref h0]) rfl ?_
  refine lv_dup hx hb dX9_init_8 rfl ?_
  have hPc : va_P (dC, dI) vwCl (fl (h0 + 1) 1 (cwb (fun k => sE cI cZ cII cIII h0 (1 + k) (fun x => iZ (sI (1 + k) x))) 5 [.null, .int 0, .null, .int 0, .null, .int 0, .int 0, .int 0] 0 ((fun k => sE cI cZ cII cIII h0 (1 + k) (fun x => iZ (sI (1 + k) x))) 0))) H := fl_P (fun k hk => by obtain rfl : k = 0 := (by show_term (have zq167 : True := trivial; omega)); exact fl_at hPo hk)
  refine va_callv (va_runIN (As := []) (rest := [.ref (h0 + 1), .ref h0]) ⟨hx, hb, hml, hown, hts⟩ (k_Texts l dC dI h0 cI cZ cII cIII ) ⟨va_cnB (host := "PageSkeleton") 0 hts (gI_G k33) rfl rfl rfl (xN_nest hEx 0 rfl) (hts _ k2) (by decide +kernel) ⟨Nat.le_of_ble_eq_true rfl, Nat.le_of_ble_eq_true rfl⟩, rfl, hts _ k32⟩ ⟨fun a U g mk q => by obtain ⟨q0, q1, qP, qK, qM⟩ := q; exact ⟨q0, q1, qP, va_K.moved (u := U) (U := U.calling g mk a) (Vm.Alike.refl U.vm) qK, qM⟩, fun U hU hW => ⟨rfl, by rw [hU]; exact hz9, by rw [hU]; exact hPc, va_K.moved hW.alike hK, (xN_warm hW hEx).2.1⟩⟩ rfl rfl hl.1 rfl (lv_room (Nat.le_of_ble_eq_true rfl)) dX9_init_9 ⟨Nat.le_of_ble_eq_true rfl, Nat.le_of_ble_eq_true rfl⟩) hS (fun q9 _ h9 => fA_sub (by show_term (have zq168 : True := trivial; omega)) q9 h9) (fA_sub (by show_term (have zq169 : True := trivial; omega))) (fun u9 t9 H1 locs ht9 hvm9 hw9 hB9 hz9 hk9 hS => ?_)
  obtain ⟨hP9, -⟩ := hB9
  rw [ht9] at hP9
  have hP := fl_called hP hk9 (by show_term (have zq170 : True := trivial; omega)) hP9 (fun k hk => (cwb_n (by show_term (have zq171 : True := trivial; omega)) (by show_term (have zq172 : True := trivial; omega))).trans (congrArg (fun z => sE cI cZ cII cIII h0 z (fun x => iZ (sI z x))) (by show_term (have zq173 : True := trivial; omega))))
  clear hPo hPc hk9 hP9 hz9
  generalize H1 = H at hP hS ⊢
  refine W.widen (k := 4) (n := 668) (by show_term (have zq174 : True := trivial; omega)) (by show_term (have zq175 : True := trivial; omega)) ?_
  have hP : va_P (dC, dI) vwCl (fl h0 5 (cwb (fun k => sE cI cZ cII cIII h0 k (fun x => iZ (sI k x))) 9 [.null, .null, .int 0, .null, .null, .int 0, .int 0, .null, .null, .null, .null, .null, .null, .null, .null] 5 (qN cZ 8 (fun i => h0 + (113 + i * 15)) 0))) H := hP
  refine va_putF (D := (dC, dI)) (ci := 9) (v := .ref (h0 + 1)) (ty := .object "PageSkeleton$Texts") (C := RX9) (T := TX9) (N := 15) hx hb hts inG9 tyX9 tyX9_ok nmX9 hown hK hP (fl_D (hAD 5 (by decide))) hS 0 (cwb_get (by decide)) rfl 0 (by decide) (hts _ k332) (fun _ h9 => h9) rfl hin rfl (by decide +kernel) rfl rfl (Nat.le_of_ble_eq_true rfl) dX9_init_12 (fun H locs hP _ hS => ?_)
  have hP : va_P (dC, dI) vwCl (fl h0 5 (cwb (fun k => sE cI cZ cII cIII h0 k (fun x => iZ (sI k x))) 9 [.ref (h0 + 1), .null, .int 0, .null, .null, .int 0, .int 0, .null, .null, .null, .null, .null, .null, .null, .null] 5 (qN cZ 8 (fun i => h0 + (113 + i * 15)) 0))) H := cwb_setP hP
  refine lv_aload_n hx hb dX9_init_15 rfl (lv_at hl 0 rfl) ?_
  refine lv_bipush (v := iZ 8) hx hb dX9_init_16 rfl ?_
  refine cz_anew (h0 := h0) (n := 5) (N' := 8) (g := (fun i => h0 + (113 + i * 15))) hx hb hown (hts _ k66) hEx.2.2.1 (hK.2 1 _ rfl).2 hP (by decide) (by show_term (have zq176 : True := trivial; omega)) hS (cwb_s (by decide)) (by decide +kernel) (by decide +kernel) (by decide) (Nat.le_of_ble_eq_true rfl) (Nat.le_of_ble_eq_true rfl) dX9_init_18 (fun H hP hS => ?_)
  refine W.widen (k := 5) (n := 676) (by show_term (have zq177 : True := trivial; omega)) (by show_term (have zq178 : True := trivial; omega)) ?_
  have hP : va_P (dC, dI) vwCl (fl h0 6 (cwb (fun k => sE cI cZ cII cIII h0 k (fun x => iZ (sI k x))) 9 [.ref (h0 + 1), .null, .int 0, .null, .null, .int 0, .int 0, .null, .null, .null, .null, .null, .null, .null, .null] 5 (qN cZ 8 (fun i => h0 + (113 + i * 15)) 0))) H := hP
  refine W.eq (g2 := F0 m 21 ls [.ref (h0 + 5), .ref h0]) rfl ?_
  refine va_putF (D := (dC, dI)) (ci := 9) (v := .ref (h0 + 5)) (ty := .array (.object "PageSkeleton$Leaf")) (C := RX9) (T := TX9) (N := 15) hx hb hts inG9 tyX9 tyX9_ok nmX9 hown hK hP (fl_D (hAD 6 (by decide))) hS 0 (cwb_get (by decide)) rfl 1 (by decide) (hts _ k333) (fun _ h9 => h9) rfl hin rfl (by decide +kernel) rfl rfl (Nat.le_of_ble_eq_true rfl) dX9_init_21 (fun H locs hP _ hS => ?_)
  have hP : va_P (dC, dI) vwCl (fl h0 6 (cwb (fun k => sE cI cZ cII cIII h0 k (fun x => iZ (sI k x))) 9 [.ref (h0 + 1), .ref (h0 + 5), .int 0, .null, .null, .int 0, .int 0, .null, .null, .null, .null, .null, .null, .null, .null] 5 (qN cZ 8 (fun i => h0 + (113 + i * 15)) 0))) H := cwb_setP hP
  refine lv_aload_n hx hb dX9_init_24 rfl (lv_at hl 0 rfl) ?_
  refine lv_iconst (v := iZ 0) hx hb dX9_init_25 rfl ?_
  refine va_put (D := (dC, dI)) (ci := 9) (v := .int (iZ 0)) (ty := .int) (C := RX9) (T := TX9) (N := 15) hx hb hts inG9 tyX9 tyX9_ok nmX9 hown hK hP (fl_D (hAD 6 (by decide))) hS 0 (cwb_get (by decide)) rfl 2 (by decide) (hts _ k334) (fun _ h9 => h9) rfl (by decide +kernel) rfl rfl (Nat.le_of_ble_eq_true rfl) dX9_init_26 (fun H locs hP _ hS => ?_)
  have hP : va_P (dC, dI) vwCl (fl h0 6 (cwb (fun k => sE cI cZ cII cIII h0 k (fun x => iZ (sI k x))) 9 [.ref (h0 + 1), .ref (h0 + 5), .int (iZ 0), .null, .null, .int 0, .int 0, .null, .null, .null, .null, .null, .null, .null, .null] 5 (qN cZ 8 (fun i => h0 + (113 + i * 15)) 0))) H := cwb_setP hP
  refine lv_aload_n hx hb dX9_init_29 rfl (lv_at hl 0 rfl) ?_
  refine cz_obj (h0 := h0) (n := 6) (ci := 4) (fs := [.null, .null, .null, .null, .null, .int 0, .int 0, .int 0]) (C := RX4) (T := TX4) (N := 8) hx hb hts inG4 tyX4 tyX4_ok hown (hts _ k68) (hts _ k69) (hts _ k3) hK hP (by decide) (by show_term (have zq179 : True := trivial; omega)) hS rfl (fun j hj => by rcases (show j = 0 ∨ j = 1 ∨ j = 2 ∨ j = 3 ∨ j = 4 ∨ j = 5 ∨ j = 6 ∨ j = 7 by show_term (have zq180 : True := trivial; omega)) with rfl | rfl | rfl | rfl | rfl | rfl | rfl | rfl <;> rfl) (Nat.le_of_ble_eq_true rfl) (Nat.le_of_ble_eq_true rfl) dX9_init_30 (fun H hz9 hP hPo hS => ?_)
  refine W.widen (k := 6) (n := 684) (by show_term (have zq181 : True := trivial; omega)) (by show_term (have zq182 : True := trivial; omega)) ?_
  refine W.eq (g2 := F0 m 33 ls [.ref (h0 + 6), .ref h0]) rfl ?_
  refine lv_dup hx hb dX9_init_33 rfl ?_
  refine lv_sipush (v := iZ 1100) hx hb dX9_init_34 rfl ?_
  have hPc : va_P (dC, dI) vwCl (fl (h0 + 6) 1 (cwb (fun k => sE cI cZ cII cIII h0 (6 + k) (fun x => iZ (sI (6 + k) x))) 4 [.null, .null, .null, .null, .null, .int 0, .int 0, .int 0] 0 ((fun k => sE cI cZ cII cIII h0 (6 + k) (fun x => iZ (sI (6 + k) x))) 0))) H := fl_P (fun k hk => by obtain rfl : k = 0 := (by show_term (have zq183 : True := trivial; omega)); exact fl_at hPo hk)
  refine va_callv (va_runI (As := [.int (iZ 1100)]) (rest := [.ref (h0 + 6), .ref h0]) ⟨hx, hb, hml, hown, hts⟩ (k_Row1100 l dC dI h0 cI cZ cII cIII (6) (rowB_6)) (cwI 1 hts (gI_G k72) rfl rfl rfl (hts _ k3) (hts _ k70) (hts _ k71) rfl (by decide +kernel) ⟨Nat.le_of_ble_eq_true rfl, Nat.le_of_ble_eq_true rfl⟩) ⟨fun a U g mk q => by obtain ⟨q0, q1, qP, qK, qM⟩ := q; exact ⟨q0, q1, qP, va_K.moved (u := U) (U := U.calling g mk a) (Vm.Alike.refl U.vm) qK, qM⟩, fun U hU hW => ⟨rfl, by rw [hU]; exact hz9, by rw [hU]; exact hPc, va_K.moved hW.alike hK, (xN_warm hW hEx).2.1⟩⟩ rfl rfl hl.1 rfl (lv_room (Nat.le_of_ble_eq_true rfl)) dX9_init_37 ⟨Nat.le_of_ble_eq_true rfl, Nat.le_of_ble_eq_true rfl⟩) hS (fun q9 _ h9 => fA_sub (by show_term (have zq184 : True := trivial; omega)) q9 h9) (fA_sub (by show_term (have zq185 : True := trivial; omega))) (fun u9 t9 H1 locs ht9 hvm9 hw9 hB9 hz9 hk9 hS => ?_)
  obtain ⟨hP9, -⟩ := hB9
  rw [ht9] at hP9
  have hP := fl_called hP hk9 (by show_term (have zq186 : True := trivial; omega)) hP9 (fun k hk => (cwb_n (by show_term (have zq187 : True := trivial; omega)) (by show_term (have zq188 : True := trivial; omega))).trans (congrArg (fun z => sE cI cZ cII cIII h0 z (fun x => iZ (sI z x))) (by show_term (have zq189 : True := trivial; omega))))
  clear hPo hPc hk9 hP9 hz9
  generalize H1 = H at hP hS ⊢
  refine W.widen (k := 11) (n := 6185) (by show_term (have zq190 : True := trivial; omega)) (by show_term (have zq191 : True := trivial; omega)) ?_
  have hP : va_P (dC, dI) vwCl (fl h0 12 (cwb (fun k => sE cI cZ cII cIII h0 k (fun x => iZ (sI k x))) 9 [.ref (h0 + 1), .ref (h0 + 5), .int (iZ 0), .null, .null, .int 0, .int 0, .null, .null, .null, .null, .null, .null, .null, .null] 5 (qN cZ 8 (fun i => h0 + (113 + i * 15)) 0))) H := hP
  refine va_putF (D := (dC, dI)) (ci := 9) (v := .ref (h0 + 6)) (ty := .object "PageSkeleton$Row") (C := RX9) (T := TX9) (N := 15) hx hb hts inG9 tyX9 tyX9_ok nmX9 hown hK hP (fl_D (hAD 12 (by decide))) hS 0 (cwb_get (by decide)) rfl 3 (by decide) (hts _ k335) (fun _ h9 => h9) rfl hin rfl (by decide +kernel) rfl rfl (Nat.le_of_ble_eq_true rfl) dX9_init_40 (fun H locs hP _ hS => ?_)
  have hP : va_P (dC, dI) vwCl (fl h0 12 (cwb (fun k => sE cI cZ cII cIII h0 k (fun x => iZ (sI k x))) 9 [.ref (h0 + 1), .ref (h0 + 5), .int (iZ 0), .ref (h0 + 6), .null, .int 0, .int 0, .null, .null, .null, .null, .null, .null, .null, .null] 5 (qN cZ 8 (fun i => h0 + (113 + i * 15)) 0))) H := cwb_setP hP
  refine lv_aload_n hx hb dX9_init_43 rfl (lv_at hl 0 rfl) ?_
  refine cz_obj (h0 := h0) (n := 12) (ci := 4) (fs := [.null, .null, .null, .null, .null, .int 0, .int 0, .int 0]) (C := RX4) (T := TX4) (N := 8) hx hb hts inG4 tyX4 tyX4_ok hown (hts _ k68) (hts _ k69) (hts _ k3) hK hP (by decide) (by show_term (have zq192 : True := trivial; omega)) hS rfl (fun j hj => by rcases (show j = 0 ∨ j = 1 ∨ j = 2 ∨ j = 3 ∨ j = 4 ∨ j = 5 ∨ j = 6 ∨ j = 7 by show_term (have zq193 : True := trivial; omega)) with rfl | rfl | rfl | rfl | rfl | rfl | rfl | rfl <;> rfl) (Nat.le_of_ble_eq_true rfl) (Nat.le_of_ble_eq_true rfl) dX9_init_44 (fun H hz9 hP hPo hS => ?_)
  refine W.widen (k := 12) (n := 6193) (by show_term (have zq194 : True := trivial; omega)) (by show_term (have zq195 : True := trivial; omega)) ?_
  refine W.eq (g2 := F0 m 47 ls [.ref (h0 + 12), .ref h0]) rfl ?_
  refine lv_dup hx hb dX9_init_47 rfl ?_
  refine lv_sipush (v := iZ 1100) hx hb dX9_init_48 rfl ?_
  have hPc : va_P (dC, dI) vwCl (fl (h0 + 12) 1 (cwb (fun k => sE cI cZ cII cIII h0 (12 + k) (fun x => iZ (sI (12 + k) x))) 4 [.null, .null, .null, .null, .null, .int 0, .int 0, .int 0] 0 ((fun k => sE cI cZ cII cIII h0 (12 + k) (fun x => iZ (sI (12 + k) x))) 0))) H := fl_P (fun k hk => by obtain rfl : k = 0 := (by show_term (have zq196 : True := trivial; omega)); exact fl_at hPo hk)
  refine va_callv (va_runI (As := [.int (iZ 1100)]) (rest := [.ref (h0 + 12), .ref h0]) ⟨hx, hb, hml, hown, hts⟩ (k_Row1100 l dC dI h0 cI cZ cII cIII (12) (rowB_12)) (cwI 1 hts (gI_G k72) rfl rfl rfl (hts _ k3) (hts _ k70) (hts _ k71) rfl (by decide +kernel) ⟨Nat.le_of_ble_eq_true rfl, Nat.le_of_ble_eq_true rfl⟩) ⟨fun a U g mk q => by obtain ⟨q0, q1, qP, qK, qM⟩ := q; exact ⟨q0, q1, qP, va_K.moved (u := U) (U := U.calling g mk a) (Vm.Alike.refl U.vm) qK, qM⟩, fun U hU hW => ⟨rfl, by rw [hU]; exact hz9, by rw [hU]; exact hPc, va_K.moved hW.alike hK, (xN_warm hW hEx).2.1⟩⟩ rfl rfl hl.1 rfl (lv_room (Nat.le_of_ble_eq_true rfl)) dX9_init_51 ⟨Nat.le_of_ble_eq_true rfl, Nat.le_of_ble_eq_true rfl⟩) hS (fun q9 _ h9 => fA_sub (by show_term (have zq197 : True := trivial; omega)) q9 h9) (fA_sub (by show_term (have zq198 : True := trivial; omega))) (fun u9 t9 H1 locs ht9 hvm9 hw9 hB9 hz9 hk9 hS => ?_)
  obtain ⟨hP9, -⟩ := hB9
  rw [ht9] at hP9
  have hP := fl_called hP hk9 (by show_term (have zq199 : True := trivial; omega)) hP9 (fun k hk => (cwb_n (by show_term (have zq200 : True := trivial; omega)) (by show_term (have zq201 : True := trivial; omega))).trans (congrArg (fun z => sE cI cZ cII cIII h0 z (fun x => iZ (sI z x))) (by show_term (have zq202 : True := trivial; omega))))
  clear hPo hPc hk9 hP9 hz9
  generalize H1 = H at hP hS ⊢
  refine W.widen (k := 17) (n := 11694) (by show_term (have zq203 : True := trivial; omega)) (by show_term (have zq204 : True := trivial; omega)) ?_
  have hP : va_P (dC, dI) vwCl (fl h0 18 (cwb (fun k => sE cI cZ cII cIII h0 k (fun x => iZ (sI k x))) 9 [.ref (h0 + 1), .ref (h0 + 5), .int (iZ 0), .ref (h0 + 6), .null, .int 0, .int 0, .null, .null, .null, .null, .null, .null, .null, .null] 5 (qN cZ 8 (fun i => h0 + (113 + i * 15)) 0))) H := hP
  refine va_putF (D := (dC, dI)) (ci := 9) (v := .ref (h0 + 12)) (ty := .object "PageSkeleton$Row") (C := RX9) (T := TX9) (N := 15) hx hb hts inG9 tyX9 tyX9_ok nmX9 hown hK hP (fl_D (hAD 18 (by decide))) hS 0 (cwb_get (by decide)) rfl 4 (by decide) (hts _ k336) (fun _ h9 => h9) rfl hin rfl (by decide +kernel) rfl rfl (Nat.le_of_ble_eq_true rfl) dX9_init_54 (fun H locs hP _ hS => ?_)
  have hP : va_P (dC, dI) vwCl (fl h0 18 (cwb (fun k => sE cI cZ cII cIII h0 k (fun x => iZ (sI k x))) 9 [.ref (h0 + 1), .ref (h0 + 5), .int (iZ 0), .ref (h0 + 6), .ref (h0 + 12), .int 0, .int 0, .null, .null, .null, .null, .null, .null, .null, .null] 5 (qN cZ 8 (fun i => h0 + (113 + i * 15)) 0))) H := cwb_setP hP
  refine lv_aload_n hx hb dX9_init_57 rfl (lv_at hl 0 rfl) ?_
  refine lv_iconst (v := iZ 0) hx hb dX9_init_58 rfl ?_
  refine va_put (D := (dC, dI)) (ci := 9) (v := .int (iZ 0)) (ty := .int) (C := RX9) (T := TX9) (N := 15) hx hb hts inG9 tyX9 tyX9_ok nmX9 hown hK hP (fl_D (hAD 18 (by decide))) hS 0 (cwb_get (by decide)) rfl 5 (by decide) (hts _ k337) (fun _ h9 => h9) rfl (by decide +kernel) rfl rfl (Nat.le_of_ble_eq_true rfl) dX9_init_59 (fun H locs hP _ hS => ?_)
  have hP : va_P (dC, dI) vwCl (fl h0 18 (cwb (fun k => sE cI cZ cII cIII h0 k (fun x => iZ (sI k x))) 9 [.ref (h0 + 1), .ref (h0 + 5), .int (iZ 0), .ref (h0 + 6), .ref (h0 + 12), .int (iZ 0), .int 0, .null, .null, .null, .null, .null, .null, .null, .null] 5 (qN cZ 8 (fun i => h0 + (113 + i * 15)) 0))) H := cwb_setP hP
  refine lv_aload_n hx hb dX9_init_62 rfl (lv_at hl 0 rfl) ?_
  refine lv_iconst (v := iZ 0) hx hb dX9_init_63 rfl ?_
  refine va_put (D := (dC, dI)) (ci := 9) (v := .int (iZ 0)) (ty := .int) (C := RX9) (T := TX9) (N := 15) hx hb hts inG9 tyX9 tyX9_ok nmX9 hown hK hP (fl_D (hAD 18 (by decide))) hS 0 (cwb_get (by decide)) rfl 6 (by decide) (hts _ k338) (fun _ h9 => h9) rfl (by decide +kernel) rfl rfl (Nat.le_of_ble_eq_true rfl) dX9_init_64 (fun H locs hP _ hS => ?_)
  have hP : va_P (dC, dI) vwCl (fl h0 18 (cwb (fun k => sE cI cZ cII cIII h0 k (fun x => iZ (sI k x))) 9 [.ref (h0 + 1), .ref (h0 + 5), .int (iZ 0), .ref (h0 + 6), .ref (h0 + 12), .int (iZ 0), .int (iZ 0), .null, .null, .null, .null, .null, .null, .null, .null] 5 (qN cZ 8 (fun i => h0 + (113 + i * 15)) 0))) H := cwb_setP hP
  refine lv_aload_n hx hb dX9_init_67 rfl (lv_at hl 0 rfl) ?_
  refine cz_obj (h0 := h0) (n := 18) (ci := 3) (fs := [.null, .null, .null, .int 0, .int 0]) (C := RX3) (T := TX3) (N := 5) hx hb hts inG3 tyX3 tyX3_ok hown (hts _ k122) (hts _ k123) (hts _ k5) hK hP (by decide) (by show_term (have zq205 : True := trivial; omega)) hS rfl (fun j hj => by rcases (show j = 0 ∨ j = 1 ∨ j = 2 ∨ j = 3 ∨ j = 4 by show_term (have zq206 : True := trivial; omega)) with rfl | rfl | rfl | rfl | rfl <;> rfl) (Nat.le_of_ble_eq_true rfl) (Nat.le_of_ble_eq_true rfl) dX9_init_68 (fun H hz9 hP hPo hS => ?_)
  refine W.widen (k := 18) (n := 11699) (by show_term (have zq207 : True := trivial; omega)) (by show_term (have zq208 : True := trivial; omega)) ?_
  refine W.eq (g2 := F0 m 71 ls [.ref (h0 + 18), .ref h0]) rfl ?_
  refine lv_dup hx hb dX9_init_71 rfl ?_
  have hPc : va_P (dC, dI) vwCl (fl (h0 + 18) 1 (cwb (fun k => sE cI cZ cII cIII h0 (18 + k) (fun x => iZ (sI (18 + k) x))) 3 [.null, .null, .null, .int 0, .int 0] 0 ((fun k => sE cI cZ cII cIII h0 (18 + k) (fun x => iZ (sI (18 + k) x))) 0))) H := fl_P (fun k hk => by obtain rfl : k = 0 := (by show_term (have zq209 : True := trivial; omega)); exact fl_at hPo hk)
  refine va_callv (va_runIN (As := []) (rest := [.ref (h0 + 18), .ref h0]) ⟨hx, hb, hml, hown, hts⟩ (k_Past l dC dI h0 cI cZ cII cIII ) ⟨va_cnB (host := "PageSkeleton") 0 hts (gI_G k126) rfl rfl rfl (xN_nest hEx 1 rfl) (hts _ k5) (by decide +kernel) ⟨Nat.le_of_ble_eq_true rfl, Nat.le_of_ble_eq_true rfl⟩, rfl, hts _ k125⟩ ⟨fun a U g mk q => by obtain ⟨q0, q1, qP, qK, qM⟩ := q; exact ⟨q0, q1, qP, va_K.moved (u := U) (U := U.calling g mk a) (Vm.Alike.refl U.vm) qK, qM⟩, fun U hU hW => ⟨rfl, by rw [hU]; exact hz9, by rw [hU]; exact hPc, va_K.moved hW.alike hK, (xN_warm hW hEx).2.1⟩⟩ rfl rfl hl.1 rfl (lv_room (Nat.le_of_ble_eq_true rfl)) dX9_init_72 ⟨Nat.le_of_ble_eq_true rfl, Nat.le_of_ble_eq_true rfl⟩) hS (fun q9 _ h9 => fA_sub (by show_term (have zq210 : True := trivial; omega)) q9 h9) (fA_sub (by show_term (have zq211 : True := trivial; omega))) (fun u9 t9 H1 locs ht9 hvm9 hw9 hB9 hz9 hk9 hS => ?_)
  obtain ⟨hP9, -⟩ := hB9
  rw [ht9] at hP9
  have hP := fl_called hP hk9 (by show_term (have zq212 : True := trivial; omega)) hP9 (fun k hk => (cwb_n (by show_term (have zq213 : True := trivial; omega)) (by show_term (have zq214 : True := trivial; omega))).trans (congrArg (fun z => sE cI cZ cII cIII h0 z (fun x => iZ (sI z x))) (by show_term (have zq215 : True := trivial; omega))))
  clear hPo hPc hk9 hP9 hz9
  generalize H1 = H at hP hS ⊢
  refine W.widen (k := 37) (n := 29347) (by show_term (have zq216 : True := trivial; omega)) (by show_term (have zq217 : True := trivial; omega)) ?_
  have hP : va_P (dC, dI) vwCl (fl h0 38 (cwb (fun k => sE cI cZ cII cIII h0 k (fun x => iZ (sI k x))) 9 [.ref (h0 + 1), .ref (h0 + 5), .int (iZ 0), .ref (h0 + 6), .ref (h0 + 12), .int (iZ 0), .int (iZ 0), .null, .null, .null, .null, .null, .null, .null, .null] 5 (qN cZ 8 (fun i => h0 + (113 + i * 15)) 0))) H := hP
  refine va_putF (D := (dC, dI)) (ci := 9) (v := .ref (h0 + 18)) (ty := .object "PageSkeleton$Past") (C := RX9) (T := TX9) (N := 15) hx hb hts inG9 tyX9 tyX9_ok nmX9 hown hK hP (fl_D (hAD 38 (by decide))) hS 0 (cwb_get (by decide)) rfl 7 (by decide) (hts _ k339) (fun _ h9 => h9) rfl hin rfl (by decide +kernel) rfl rfl (Nat.le_of_ble_eq_true rfl) dX9_init_75 (fun H locs hP _ hS => ?_)
  have hP : va_P (dC, dI) vwCl (fl h0 38 (cwb (fun k => sE cI cZ cII cIII h0 k (fun x => iZ (sI k x))) 9 [.ref (h0 + 1), .ref (h0 + 5), .int (iZ 0), .ref (h0 + 6), .ref (h0 + 12), .int (iZ 0), .int (iZ 0), .ref (h0 + 18), .null, .null, .null, .null, .null, .null, .null] 5 (qN cZ 8 (fun i => h0 + (113 + i * 15)) 0))) H := cwb_setP hP
  refine lv_aload_n hx hb dX9_init_78 rfl (lv_at hl 0 rfl) ?_
  refine cz_obj (h0 := h0) (n := 38) (ci := 6) (fs := [.null, .null, .int 0, .int 0, .int 0, .int 0]) (C := RX6) (T := TX6) (N := 6) hx hb hts inG6 tyX6 tyX6_ok hown (hts _ k147) (hts _ k148) (hts _ k6) hK hP (by decide) (by show_term (have zq218 : True := trivial; omega)) hS rfl (fun j hj => by rcases (show j = 0 ∨ j = 1 ∨ j = 2 ∨ j = 3 ∨ j = 4 ∨ j = 5 by show_term (have zq219 : True := trivial; omega)) with rfl | rfl | rfl | rfl | rfl | rfl <;> rfl) (Nat.le_of_ble_eq_true rfl) (Nat.le_of_ble_eq_true rfl) dX9_init_79 (fun H hz9 hP hPo hS => ?_)
  refine W.widen (k := 38) (n := 29353) (by show_term (have zq220 : True := trivial; omega)) (by show_term (have zq221 : True := trivial; omega)) ?_
  refine W.eq (g2 := F0 m 82 ls [.ref (h0 + 38), .ref h0]) rfl ?_
  refine lv_dup hx hb dX9_init_82 rfl ?_
  have hPc : va_P (dC, dI) vwCl (fl (h0 + 38) 1 (cwb (fun k => sE cI cZ cII cIII h0 (38 + k) (fun x => iZ (sI (38 + k) x))) 6 [.null, .null, .int 0, .int 0, .int 0, .int 0] 0 ((fun k => sE cI cZ cII cIII h0 (38 + k) (fun x => iZ (sI (38 + k) x))) 0))) H := fl_P (fun k hk => by obtain rfl : k = 0 := (by show_term (have zq222 : True := trivial; omega)); exact fl_at hPo hk)
  refine va_callv (va_runIN (As := []) (rest := [.ref (h0 + 38), .ref h0]) ⟨hx, hb, hml, hown, hts⟩ (k_Tidier l dC dI h0 cI cZ cII cIII ) ⟨va_cnB (host := "PageSkeleton") 0 hts (gI_G k151) rfl rfl rfl (xN_nest hEx 2 rfl) (hts _ k6) (by decide +kernel) ⟨Nat.le_of_ble_eq_true rfl, Nat.le_of_ble_eq_true rfl⟩, rfl, hts _ k150⟩ ⟨fun a U g mk q => by obtain ⟨q0, q1, qP, qK, qM⟩ := q; exact ⟨q0, q1, qP, va_K.moved (u := U) (U := U.calling g mk a) (Vm.Alike.refl U.vm) qK, qM⟩, fun U hU hW => ⟨rfl, by rw [hU]; exact hz9, by rw [hU]; exact hPc, va_K.moved hW.alike hK, (xN_warm hW hEx).2.1⟩⟩ rfl rfl hl.1 rfl (lv_room (Nat.le_of_ble_eq_true rfl)) dX9_init_83 ⟨Nat.le_of_ble_eq_true rfl, Nat.le_of_ble_eq_true rfl⟩) hS (fun q9 _ h9 => fA_sub (by show_term (have zq223 : True := trivial; omega)) q9 h9) (fA_sub (by show_term (have zq224 : True := trivial; omega))) (fun u9 t9 H1 locs ht9 hvm9 hw9 hB9 hz9 hk9 hS => ?_)
  obtain ⟨hP9, -⟩ := hB9
  rw [ht9] at hP9
  have hP := fl_called hP hk9 (by show_term (have zq225 : True := trivial; omega)) hP9 (fun k hk => (cwb_n (by show_term (have zq226 : True := trivial; omega)) (by show_term (have zq227 : True := trivial; omega))).trans (congrArg (fun z => sE cI cZ cII cIII h0 z (fun x => iZ (sI z x))) (by show_term (have zq228 : True := trivial; omega))))
  clear hPo hPc hk9 hP9 hz9
  generalize H1 = H at hP hS ⊢
  refine W.widen (k := 40) (n := 31555) (by show_term (have zq229 : True := trivial; omega)) (by show_term (have zq230 : True := trivial; omega)) ?_
  have hP : va_P (dC, dI) vwCl (fl h0 41 (cwb (fun k => sE cI cZ cII cIII h0 k (fun x => iZ (sI k x))) 9 [.ref (h0 + 1), .ref (h0 + 5), .int (iZ 0), .ref (h0 + 6), .ref (h0 + 12), .int (iZ 0), .int (iZ 0), .ref (h0 + 18), .null, .null, .null, .null, .null, .null, .null] 5 (qN cZ 8 (fun i => h0 + (113 + i * 15)) 0))) H := hP
  refine va_putF (D := (dC, dI)) (ci := 9) (v := .ref (h0 + 38)) (ty := .object "PageSkeleton$Tidier") (C := RX9) (T := TX9) (N := 15) hx hb hts inG9 tyX9 tyX9_ok nmX9 hown hK hP (fl_D (hAD 41 (by decide))) hS 0 (cwb_get (by decide)) rfl 8 (by decide) (hts _ k340) (fun _ h9 => h9) rfl hin rfl (by decide +kernel) rfl rfl (Nat.le_of_ble_eq_true rfl) dX9_init_86 (fun H locs hP _ hS => ?_)
  have hP : va_P (dC, dI) vwCl (fl h0 41 (cwb (fun k => sE cI cZ cII cIII h0 k (fun x => iZ (sI k x))) 9 [.ref (h0 + 1), .ref (h0 + 5), .int (iZ 0), .ref (h0 + 6), .ref (h0 + 12), .int (iZ 0), .int (iZ 0), .ref (h0 + 18), .ref (h0 + 38), .null, .null, .null, .null, .null, .null] 5 (qN cZ 8 (fun i => h0 + (113 + i * 15)) 0))) H := cwb_setP hP
  refine lv_aload_n hx hb dX9_init_89 rfl (lv_at hl 0 rfl) ?_
  refine cz_obj (h0 := h0) (n := 41) (ci := 0) (fs := [.null, .null, .null, .int 0, .int 0, .int 0, .int 0]) (C := RX0) (T := TX0) (N := 7) hx hb hts inG0 tyX0 tyX0_ok hown (hts _ k175) (hts _ k176) (hts _ k7) hK hP (by decide) (by show_term (have zq231 : True := trivial; omega)) hS rfl (fun j hj => by rcases (show j = 0 ∨ j = 1 ∨ j = 2 ∨ j = 3 ∨ j = 4 ∨ j = 5 ∨ j = 6 by show_term (have zq232 : True := trivial; omega)) with rfl | rfl | rfl | rfl | rfl | rfl | rfl <;> rfl) (Nat.le_of_ble_eq_true rfl) (Nat.le_of_ble_eq_true rfl) dX9_init_90 (fun H hz9 hP hPo hS => ?_)
  refine W.widen (k := 41) (n := 31562) (by show_term (have zq233 : True := trivial; omega)) (by show_term (have zq234 : True := trivial; omega)) ?_
  refine W.eq (g2 := F0 m 93 ls [.ref (h0 + 41), .ref h0]) rfl ?_
  refine lv_dup hx hb dX9_init_93 rfl ?_
  have hPc : va_P (dC, dI) vwCl (fl (h0 + 41) 1 (cwb (fun k => sE cI cZ cII cIII h0 (41 + k) (fun x => iZ (sI (41 + k) x))) 0 [.null, .null, .null, .int 0, .int 0, .int 0, .int 0] 0 ((fun k => sE cI cZ cII cIII h0 (41 + k) (fun x => iZ (sI (41 + k) x))) 0))) H := fl_P (fun k hk => by obtain rfl : k = 0 := (by show_term (have zq235 : True := trivial; omega)); exact fl_at hPo hk)
  refine va_callv (va_runIN (As := []) (rest := [.ref (h0 + 41), .ref h0]) ⟨hx, hb, hml, hown, hts⟩ (k_Layer l dC dI h0 cI cZ cII cIII ) ⟨va_cnB (host := "PageSkeleton") 0 hts (gI_G k179) rfl rfl rfl (xN_nest hEx 3 rfl) (hts _ k7) (by decide +kernel) ⟨Nat.le_of_ble_eq_true rfl, Nat.le_of_ble_eq_true rfl⟩, rfl, hts _ k178⟩ ⟨fun a U g mk q => by obtain ⟨q0, q1, qP, qK, qM⟩ := q; exact ⟨q0, q1, qP, va_K.moved (u := U) (U := U.calling g mk a) (Vm.Alike.refl U.vm) qK, qM⟩, fun U hU hW => ⟨rfl, by rw [hU]; exact hz9, by rw [hU]; exact hPc, va_K.moved hW.alike hK, (xN_warm hW hEx).2.1⟩⟩ rfl rfl hl.1 rfl (lv_room (Nat.le_of_ble_eq_true rfl)) dX9_init_94 ⟨Nat.le_of_ble_eq_true rfl, Nat.le_of_ble_eq_true rfl⟩) hS (fun q9 _ h9 => fA_sub (by show_term (have zq236 : True := trivial; omega)) q9 h9) (fA_sub (by show_term (have zq237 : True := trivial; omega))) (fun u9 t9 H1 locs ht9 hvm9 hw9 hB9 hz9 hk9 hS => ?_)
  obtain ⟨hP9, -⟩ := hB9
  rw [ht9] at hP9
  have hP := fl_called hP hk9 (by show_term (have zq238 : True := trivial; omega)) hP9 (fun k hk => (cwb_n (by show_term (have zq239 : True := trivial; omega)) (by show_term (have zq240 : True := trivial; omega))).trans (congrArg (fun z => sE cI cZ cII cIII h0 z (fun x => iZ (sI z x))) (by show_term (have zq241 : True := trivial; omega))))
  clear hPo hPc hk9 hP9 hz9
  generalize H1 = H at hP hS ⊢
  refine W.widen (k := 44) (n := 140561) (by show_term (have zq242 : True := trivial; omega)) (by show_term (have zq243 : True := trivial; omega)) ?_
  have hP : va_P (dC, dI) vwCl (fl h0 45 (cwb (fun k => sE cI cZ cII cIII h0 k (fun x => iZ (sI k x))) 9 [.ref (h0 + 1), .ref (h0 + 5), .int (iZ 0), .ref (h0 + 6), .ref (h0 + 12), .int (iZ 0), .int (iZ 0), .ref (h0 + 18), .ref (h0 + 38), .null, .null, .null, .null, .null, .null] 5 (qN cZ 8 (fun i => h0 + (113 + i * 15)) 0))) H := hP
  refine va_putF (D := (dC, dI)) (ci := 9) (v := .ref (h0 + 41)) (ty := .object "PageSkeleton$Layer") (C := RX9) (T := TX9) (N := 15) hx hb hts inG9 tyX9 tyX9_ok nmX9 hown hK hP (fl_D (hAD 45 (by decide))) hS 0 (cwb_get (by decide)) rfl 9 (by decide) (hts _ k341) (fun _ h9 => h9) rfl hin rfl (by decide +kernel) rfl rfl (Nat.le_of_ble_eq_true rfl) dX9_init_97 (fun H locs hP _ hS => ?_)
  have hP : va_P (dC, dI) vwCl (fl h0 45 (cwb (fun k => sE cI cZ cII cIII h0 k (fun x => iZ (sI k x))) 9 [.ref (h0 + 1), .ref (h0 + 5), .int (iZ 0), .ref (h0 + 6), .ref (h0 + 12), .int (iZ 0), .int (iZ 0), .ref (h0 + 18), .ref (h0 + 38), .ref (h0 + 41), .null, .null, .null, .null, .null] 5 (qN cZ 8 (fun i => h0 + (113 + i * 15)) 0))) H := cwb_setP hP
  refine lv_aload_n hx hb dX9_init_100 rfl (lv_at hl 0 rfl) ?_
  refine cz_obj (h0 := h0) (n := 45) (ci := 8) (fs := [.null, .null]) (C := RX8) (T := TX8) (N := 2) hx hb hts inG8 tyX8 tyX8_ok hown (hts _ k204) (hts _ k205) (hts _ k8) hK hP (by decide) (by show_term (have zq244 : True := trivial; omega)) hS rfl (fun j hj => by rcases (show j = 0 ∨ j = 1 by show_term (have zq245 : True := trivial; omega)) with rfl | rfl <;> rfl) (Nat.le_of_ble_eq_true rfl) (Nat.le_of_ble_eq_true rfl) dX9_init_101 (fun H hz9 hP hPo hS => ?_)
  refine W.widen (k := 45) (n := 140563) (by show_term (have zq246 : True := trivial; omega)) (by show_term (have zq247 : True := trivial; omega)) ?_
  refine W.eq (g2 := F0 m 104 ls [.ref (h0 + 45), .ref h0]) rfl ?_
  refine lv_dup hx hb dX9_init_104 rfl ?_
  have hPc : va_P (dC, dI) vwCl (fl (h0 + 45) 1 (cwb (fun k => sE cI cZ cII cIII h0 (45 + k) (fun x => iZ (sI (45 + k) x))) 8 [.null, .null] 0 ((fun k => sE cI cZ cII cIII h0 (45 + k) (fun x => iZ (sI (45 + k) x))) 0))) H := fl_P (fun k hk => by obtain rfl : k = 0 := (by show_term (have zq248 : True := trivial; omega)); exact fl_at hPo hk)
  refine va_callv (va_runIN (As := []) (rest := [.ref (h0 + 45), .ref h0]) ⟨hx, hb, hml, hown, hts⟩ (k_Walker l dC dI h0 cI cZ cII cIII ) ⟨va_cnB (host := "PageSkeleton") 0 hts (gI_G k208) rfl rfl rfl (xN_nest hEx 4 rfl) (hts _ k8) (by decide +kernel) ⟨Nat.le_of_ble_eq_true rfl, Nat.le_of_ble_eq_true rfl⟩, rfl, hts _ k207⟩ ⟨fun a U g mk q => by obtain ⟨q0, q1, qP, qK, qM⟩ := q; exact ⟨q0, q1, qP, va_K.moved (u := U) (U := U.calling g mk a) (Vm.Alike.refl U.vm) qK, qM⟩, fun U hU hW => ⟨rfl, by rw [hU]; exact hz9, by rw [hU]; exact hPc, va_K.moved hW.alike hK, (xN_warm hW hEx).2.1⟩⟩ rfl rfl hl.1 rfl (lv_room (Nat.le_of_ble_eq_true rfl)) dX9_init_105 ⟨Nat.le_of_ble_eq_true rfl, Nat.le_of_ble_eq_true rfl⟩) hS (fun q9 _ h9 => fA_sub (by show_term (have zq249 : True := trivial; omega)) q9 h9) (fA_sub (by show_term (have zq250 : True := trivial; omega))) (fun u9 t9 H1 locs ht9 hvm9 hw9 hB9 hz9 hk9 hS => ?_)
  obtain ⟨hP9, -⟩ := hB9
  rw [ht9] at hP9
  have hP := fl_called hP hk9 (by show_term (have zq251 : True := trivial; omega)) hP9 (fun k hk => (cwb_n (by show_term (have zq252 : True := trivial; omega)) (by show_term (have zq253 : True := trivial; omega))).trans (congrArg (fun z => sE cI cZ cII cIII h0 z (fun x => iZ (sI z x))) (by show_term (have zq254 : True := trivial; omega))))
  clear hPo hPc hk9 hP9 hz9
  generalize H1 = H at hP hS ⊢
  refine W.widen (k := 47) (n := 208825) (by show_term (have zq255 : True := trivial; omega)) (by show_term (have zq256 : True := trivial; omega)) ?_
  have hP : va_P (dC, dI) vwCl (fl h0 48 (cwb (fun k => sE cI cZ cII cIII h0 k (fun x => iZ (sI k x))) 9 [.ref (h0 + 1), .ref (h0 + 5), .int (iZ 0), .ref (h0 + 6), .ref (h0 + 12), .int (iZ 0), .int (iZ 0), .ref (h0 + 18), .ref (h0 + 38), .ref (h0 + 41), .null, .null, .null, .null, .null] 5 (qN cZ 8 (fun i => h0 + (113 + i * 15)) 0))) H := hP
  refine va_putF (D := (dC, dI)) (ci := 9) (v := .ref (h0 + 45)) (ty := .object "PageSkeleton$Walker") (C := RX9) (T := TX9) (N := 15) hx hb hts inG9 tyX9 tyX9_ok nmX9 hown hK hP (fl_D (hAD 48 (by decide))) hS 0 (cwb_get (by decide)) rfl 10 (by decide) (hts _ k342) (fun _ h9 => h9) rfl hin rfl (by decide +kernel) rfl rfl (Nat.le_of_ble_eq_true rfl) dX9_init_108 (fun H locs hP _ hS => ?_)
  have hP : va_P (dC, dI) vwCl (fl h0 48 (cwb (fun k => sE cI cZ cII cIII h0 k (fun x => iZ (sI k x))) 9 [.ref (h0 + 1), .ref (h0 + 5), .int (iZ 0), .ref (h0 + 6), .ref (h0 + 12), .int (iZ 0), .int (iZ 0), .ref (h0 + 18), .ref (h0 + 38), .ref (h0 + 41), .ref (h0 + 45), .null, .null, .null, .null] 5 (qN cZ 8 (fun i => h0 + (113 + i * 15)) 0))) H := cwb_setP hP
  refine lv_aload_n hx hb dX9_init_111 rfl (lv_at hl 0 rfl) ?_
  refine cz_obj (h0 := h0) (n := 48) (ci := 2) (fs := [.null, .null, .null, .null, .null, .null, .int 0, .int 0, .null]) (C := RX2) (T := TX2) (N := 9) hx hb hts inG2 tyX2 tyX2_ok hown (hts _ k218) (hts _ k219) (hts _ k9) hK hP (by decide) (by show_term (have zq257 : True := trivial; omega)) hS rfl (fun j hj => by rcases (show j = 0 ∨ j = 1 ∨ j = 2 ∨ j = 3 ∨ j = 4 ∨ j = 5 ∨ j = 6 ∨ j = 7 ∨ j = 8 by show_term (have zq258 : True := trivial; omega)) with rfl | rfl | rfl | rfl | rfl | rfl | rfl | rfl | rfl <;> rfl) (Nat.le_of_ble_eq_true rfl) (Nat.le_of_ble_eq_true rfl) dX9_init_112 (fun H hz9 hP hPo hS => ?_)
  refine W.widen (k := 48) (n := 208834) (by show_term (have zq259 : True := trivial; omega)) (by show_term (have zq260 : True := trivial; omega)) ?_
  refine W.eq (g2 := F0 m 115 ls [.ref (h0 + 48), .ref h0]) rfl ?_
  refine lv_dup hx hb dX9_init_115 rfl ?_
  have hPc : va_P (dC, dI) vwCl (fl (h0 + 48) 1 (fun _ => .inr (2, [.null, .null, .null, .null, .null, .null, .int 0, .int 0, .null]))) H := hPo
  refine va_callv (va_runI (As := []) (rest := [.ref (h0 + 48), .ref h0]) ⟨hx, hb, hml, hown, hts⟩ (k_Orders l dC dI h0 cI cZ cII cIII ) (cwI 0 hts (gI_G k222) rfl rfl rfl (hts _ k9) (hts _ k220) (hts _ k221) rfl (by decide +kernel) ⟨Nat.le_of_ble_eq_true rfl, Nat.le_of_ble_eq_true rfl⟩) ⟨fun a U g mk q => by obtain ⟨q0, q1, qP, qK, qM⟩ := q; exact ⟨q0, q1, qP, va_K.moved (u := U) (U := U.calling g mk a) (Vm.Alike.refl U.vm) qK, qM⟩, fun U hU hW => ⟨rfl, by rw [hU]; exact hz9, by rw [hU]; exact hPc, va_K.moved hW.alike hK, xN_warm hW hEx⟩⟩ rfl rfl hl.1 rfl (lv_room (Nat.le_of_ble_eq_true rfl)) dX9_init_116 ⟨Nat.le_of_ble_eq_true rfl, Nat.le_of_ble_eq_true rfl⟩) hS (fun q9 _ h9 => fA_sub (by show_term (have zq261 : True := trivial; omega)) q9 h9) (fA_sub (by show_term (have zq262 : True := trivial; omega))) (fun u9 t9 H1 locs ht9 hvm9 hw9 hB9 hz9 hk9 hS => ?_)
  obtain ⟨hP9, -⟩ := hB9
  rw [ht9] at hP9
  have hP := fl_called hP hk9 (by show_term (have zq263 : True := trivial; omega)) hP9 (fun k hk => (cwb_n (by show_term (have zq264 : True := trivial; omega)) (by show_term (have zq265 : True := trivial; omega))).trans (congrArg (fun z => sE cI cZ cII cIII h0 z (fun x => iZ (sI z x))) (by show_term (have zq266 : True := trivial; omega))))
  clear hPo hPc hk9 hP9 hz9
  generalize H1 = H at hP hS ⊢
  refine W.widen (k := 109) (n := 262869) (by show_term (have zq267 : True := trivial; omega)) (by show_term (have zq268 : True := trivial; omega)) ?_
  have hP : va_P (dC, dI) vwCl (fl h0 110 (cwb (fun k => sE cI cZ cII cIII h0 k (fun x => iZ (sI k x))) 9 [.ref (h0 + 1), .ref (h0 + 5), .int (iZ 0), .ref (h0 + 6), .ref (h0 + 12), .int (iZ 0), .int (iZ 0), .ref (h0 + 18), .ref (h0 + 38), .ref (h0 + 41), .ref (h0 + 45), .null, .null, .null, .null] 5 (qN cZ 8 (fun i => h0 + (113 + i * 15)) 0))) H := hP
  refine va_putF (D := (dC, dI)) (ci := 9) (v := .ref (h0 + 48)) (ty := .object "PageSkeleton$Orders") (C := RX9) (T := TX9) (N := 15) hx hb hts inG9 tyX9 tyX9_ok nmX9 hown hK hP (fl_D (hAD 110 (by decide))) hS 0 (cwb_get (by decide)) rfl 11 (by decide) (hts _ k343) (fun _ h9 => h9) rfl hin rfl (by decide +kernel) rfl rfl (Nat.le_of_ble_eq_true rfl) dX9_init_119 (fun H locs hP _ hS => ?_)
  have hP : va_P (dC, dI) vwCl (fl h0 110 (cwb (fun k => sE cI cZ cII cIII h0 k (fun x => iZ (sI k x))) 9 [.ref (h0 + 1), .ref (h0 + 5), .int (iZ 0), .ref (h0 + 6), .ref (h0 + 12), .int (iZ 0), .int (iZ 0), .ref (h0 + 18), .ref (h0 + 38), .ref (h0 + 41), .ref (h0 + 45), .ref (h0 + 48), .null, .null, .null] 5 (qN cZ 8 (fun i => h0 + (113 + i * 15)) 0))) H := cwb_setP hP
  refine lv_aload_n hx hb dX9_init_122 rfl (lv_at hl 0 rfl) ?_
  refine lv_bipush (v := iZ 60) hx hb dX9_init_123 rfl ?_
  refine cz_new (h0 := h0) (atype := .int) (n := 110) (cA := cI) (N' := 60) (a0 := (60, .inl (fun _ => 0))) hx hb (hts _ k65) f1 hP (by decide) (by show_term (have zq269 : True := trivial; omega)) hS ((cwb_n (by decide) (by decide)).trans ((congrArg (sE cI cZ cII cIII h0 110) (sI_z (by decide))).trans (sE_110 _))) (fun _ => rfl) (by decide +kernel) (by decide +kernel) (Nat.le_of_ble_eq_true rfl) (Nat.le_of_ble_eq_true rfl) (Nat.le_of_ble_eq_true rfl) dX9_init_125 (fun H hP hS => ?_)
  refine W.widen (k := 110) (n := 262929) (by show_term (have zq270 : True := trivial; omega)) (by show_term (have zq271 : True := trivial; omega)) ?_
  have hP : va_P (dC, dI) vwCl (fl h0 111 (cwb (fun k => sE cI cZ cII cIII h0 k (fun x => iZ (sI k x))) 9 [.ref (h0 + 1), .ref (h0 + 5), .int (iZ 0), .ref (h0 + 6), .ref (h0 + 12), .int (iZ 0), .int (iZ 0), .ref (h0 + 18), .ref (h0 + 38), .ref (h0 + 41), .ref (h0 + 45), .ref (h0 + 48), .null, .null, .null] 5 (qN cZ 8 (fun i => h0 + (113 + i * 15)) 0))) H := hP
  refine W.eq (g2 := F0 m 127 ls [.ref (h0 + 110), .ref h0]) rfl ?_
  refine va_putF (D := (dC, dI)) (ci := 9) (v := .ref (h0 + 110)) (ty := .array .int) (C := RX9) (T := TX9) (N := 15) hx hb hts inG9 tyX9 tyX9_ok nmX9 hown hK hP (fl_D (hAD 111 (by decide))) hS 0 (cwb_get (by decide)) rfl 12 (by decide) (hts _ k344) (fun _ h9 => h9) rfl hin rfl (by decide +kernel) rfl rfl (Nat.le_of_ble_eq_true rfl) dX9_init_127 (fun H locs hP _ hS => ?_)
  have hP : va_P (dC, dI) vwCl (fl h0 111 (cwb (fun k => sE cI cZ cII cIII h0 k (fun x => iZ (sI k x))) 9 [.ref (h0 + 1), .ref (h0 + 5), .int (iZ 0), .ref (h0 + 6), .ref (h0 + 12), .int (iZ 0), .int (iZ 0), .ref (h0 + 18), .ref (h0 + 38), .ref (h0 + 41), .ref (h0 + 45), .ref (h0 + 48), .ref (h0 + 110), .null, .null] 5 (qN cZ 8 (fun i => h0 + (113 + i * 15)) 0))) H := cwb_setP hP
  refine lv_aload_n hx hb dX9_init_130 rfl (lv_at hl 0 rfl) ?_
  refine lv_sipush (v := iZ 200) hx hb dX9_init_131 rfl ?_
  refine cz_new (h0 := h0) (atype := .int) (n := 111) (cA := cI) (N' := 200) (a0 := (200, .inl (fun _ => 0))) hx hb (hts _ k65) f1 hP (by decide) (by show_term (have zq272 : True := trivial; omega)) hS ((cwb_n (by decide) (by decide)).trans ((congrArg (sE cI cZ cII cIII h0 111) (sI_z (by decide))).trans (sE_111 _))) (fun _ => rfl) (by decide +kernel) (by decide +kernel) (Nat.le_of_ble_eq_true rfl) (Nat.le_of_ble_eq_true rfl) (Nat.le_of_ble_eq_true rfl) dX9_init_134 (fun H hP hS => ?_)
  refine W.widen (k := 111) (n := 263129) (by show_term (have zq273 : True := trivial; omega)) (by show_term (have zq274 : True := trivial; omega)) ?_
  have hP : va_P (dC, dI) vwCl (fl h0 112 (cwb (fun k => sE cI cZ cII cIII h0 k (fun x => iZ (sI k x))) 9 [.ref (h0 + 1), .ref (h0 + 5), .int (iZ 0), .ref (h0 + 6), .ref (h0 + 12), .int (iZ 0), .int (iZ 0), .ref (h0 + 18), .ref (h0 + 38), .ref (h0 + 41), .ref (h0 + 45), .ref (h0 + 48), .ref (h0 + 110), .null, .null] 5 (qN cZ 8 (fun i => h0 + (113 + i * 15)) 0))) H := hP
  refine W.eq (g2 := F0 m 136 ls [.ref (h0 + 111), .ref h0]) rfl ?_
  refine va_putF (D := (dC, dI)) (ci := 9) (v := .ref (h0 + 111)) (ty := .array .int) (C := RX9) (T := TX9) (N := 15) hx hb hts inG9 tyX9 tyX9_ok nmX9 hown hK hP (fl_D (hAD 112 (by decide))) hS 0 (cwb_get (by decide)) rfl 13 (by decide) (hts _ k345) (fun _ h9 => h9) rfl hin rfl (by decide +kernel) rfl rfl (Nat.le_of_ble_eq_true rfl) dX9_init_136 (fun H locs hP _ hS => ?_)
  have hP : va_P (dC, dI) vwCl (fl h0 112 (cwb (fun k => sE cI cZ cII cIII h0 k (fun x => iZ (sI k x))) 9 [.ref (h0 + 1), .ref (h0 + 5), .int (iZ 0), .ref (h0 + 6), .ref (h0 + 12), .int (iZ 0), .int (iZ 0), .ref (h0 + 18), .ref (h0 + 38), .ref (h0 + 41), .ref (h0 + 45), .ref (h0 + 48), .ref (h0 + 110), .ref (h0 + 111), .null] 5 (qN cZ 8 (fun i => h0 + (113 + i * 15)) 0))) H := cwb_setP hP
  refine lv_aload_n hx hb dX9_init_139 rfl (lv_at hl 0 rfl) ?_
  refine lv_iconst (v := iZ 3) hx hb dX9_init_140 rfl ?_
  refine cz_new (h0 := h0) (atype := .int) (n := 112) (cA := cI) (N' := 3) (a0 := (3, .inl (fun _ => 0))) hx hb (hts _ k65) f1 hP (by decide) (by show_term (have zq275 : True := trivial; omega)) hS ((cwb_n (by decide) (by decide)).trans ((congrArg (sE cI cZ cII cIII h0 112) (sI_z (by decide))).trans (sE_112 _))) (fun _ => rfl) (by decide +kernel) (by decide +kernel) (Nat.le_of_ble_eq_true rfl) (Nat.le_of_ble_eq_true rfl) (Nat.le_of_ble_eq_true rfl) dX9_init_141 (fun H hP hS => ?_)
  refine W.widen (k := 112) (n := 263132) (by show_term (have zq276 : True := trivial; omega)) (by show_term (have zq277 : True := trivial; omega)) ?_
  have hP : va_P (dC, dI) vwCl (fl h0 113 (cwb (fun k => sE cI cZ cII cIII h0 k (fun x => iZ (sI k x))) 9 [.ref (h0 + 1), .ref (h0 + 5), .int (iZ 0), .ref (h0 + 6), .ref (h0 + 12), .int (iZ 0), .int (iZ 0), .ref (h0 + 18), .ref (h0 + 38), .ref (h0 + 41), .ref (h0 + 45), .ref (h0 + 48), .ref (h0 + 110), .ref (h0 + 111), .null] 5 (qN cZ 8 (fun i => h0 + (113 + i * 15)) 0))) H := hP
  refine W.eq (g2 := F0 m 143 ls [.ref (h0 + 112), .ref h0]) rfl ?_
  refine va_putF (D := (dC, dI)) (ci := 9) (v := .ref (h0 + 112)) (ty := .array .int) (C := RX9) (T := TX9) (N := 15) hx hb hts inG9 tyX9 tyX9_ok nmX9 hown hK hP (fl_D (hAD 113 (by decide))) hS 0 (cwb_get (by decide)) rfl 14 (by decide) (hts _ k346) (fun _ h9 => h9) rfl hin rfl (by decide +kernel) rfl rfl (Nat.le_of_ble_eq_true rfl) dX9_init_143 (fun H locs hP _ hS => ?_)
  have hP : va_P (dC, dI) vwCl (fl h0 113 (cwb (fun k => sE cI cZ cII cIII h0 k (fun x => iZ (sI k x))) 9 [.ref (h0 + 1), .ref (h0 + 5), .int (iZ 0), .ref (h0 + 6), .ref (h0 + 12), .int (iZ 0), .int (iZ 0), .ref (h0 + 18), .ref (h0 + 38), .ref (h0 + 41), .ref (h0 + 45), .ref (h0 + 48), .ref (h0 + 110), .ref (h0 + 111), .ref (h0 + 112)] 5 (qN cZ 8 (fun i => h0 + (113 + i * 15)) 0))) H := cwb_setP hP
  refine lv_iconst (v := iZ 0) hx hb dX9_init_146 rfl ?_
  refine lv_istore_n (lv' := [(1, .int (iZ 0)), (0, .ref h0)]) hx hb dX9_init_147 rfl hl (by decide) rfl (fun ls hl => ?_)
  refine lv_iload_n hx hb dX9_init_148 rfl (lv_at hl 0 rfl) ?_
  refine lv_bipush (v := iZ 8) hx hb dX9_init_149 rfl ?_
  refine lv_icmp_ge (tgt := 173) hx hb dX9_init_151 (by decide) (fun c9 => absurd c9 (by decide +kernel)) (fun _ => ?_)
  refine lv_aload_n hx hb dX9_init_154 rfl (lv_at hl 1 rfl) ?_
  refine va_get (D := (dC, dI)) (ci := 9) (v := .ref (h0 + 5)) (C := RX9) (T := TX9) (N := 15) hx hb hts inG9 hown hK hP 0 (cwb_get (by decide)) rfl 1 (by decide) (hts _ k333) (fun _ h9 => h9) rfl dX9_init_155 ?_
  refine lv_iload_n hx hb dX9_init_158 rfl (lv_at hl 0 rfl) ?_
  refine cz_obj (h0 := h0) (n := 113) (ci := 1) (fs := [.null, .null, .int 0, .null, .null, .int 0, .null, .null]) (C := RX1) (T := TX1) (N := 8) hx hb hts inG1 tyX1 tyX1_ok hown (hts _ k66) (hts _ k258) (hts _ k10) hK hP (by decide) (by show_term (have zq278 : True := trivial; omega)) hS rfl (fun j hj => by rcases (show j = 0 ∨ j = 1 ∨ j = 2 ∨ j = 3 ∨ j = 4 ∨ j = 5 ∨ j = 6 ∨ j = 7 by show_term (have zq279 : True := trivial; omega)) with rfl | rfl | rfl | rfl | rfl | rfl | rfl | rfl <;> rfl) (Nat.le_of_ble_eq_true rfl) (Nat.le_of_ble_eq_true rfl) dX9_init_159 (fun H hz9 hP hPo hS => ?_)
  refine W.widen (k := 113) (n := 263140) (by show_term (have zq280 : True := trivial; omega)) (by show_term (have zq281 : True := trivial; omega)) ?_
  refine W.eq (g2 := F0 m 162 ls [.ref (h0 + 113), .int (iZ 0), .ref (h0 + 5)]) rfl ?_
  refine lv_dup hx hb dX9_init_162 rfl ?_
  have hPc : va_P (dC, dI) vwCl (fl (h0 + 113) 1 (cwb (fun k => sE cI cZ cII cIII h0 (113 + k) (fun x => iZ (sI (113 + k) x))) 1 [.null, .null, .int 0, .null, .null, .int 0, .null, .null] 0 ((fun k => sE cI cZ cII cIII h0 (113 + k) (fun x => iZ (sI (113 + k) x))) 0))) H := fl_P (fun k hk => by obtain rfl : k = 0 := (by show_term (have zq282 : True := trivial; omega)); exact fl_at hPo hk)
  refine va_callv (va_runIN (As := []) (rest := [.ref (h0 + 113), .int (iZ 0), .ref (h0 + 5)]) ⟨hx, hb, hml, hown, hts⟩ (k_Leaf l dC dI h0 cI cZ cII cIII 113 0 (by decide) rfl) ⟨va_cnB (host := "PageSkeleton") 0 hts (gI_G k261) rfl rfl rfl (xN_nest hEx 5 rfl) (hts _ k10) (by decide +kernel) ⟨Nat.le_of_ble_eq_true rfl, Nat.le_of_ble_eq_true rfl⟩, rfl, hts _ k260⟩ ⟨fun a U g mk q => by obtain ⟨q0, q1, qP, qK, qM⟩ := q; exact ⟨q0, q1, qP, va_K.moved (u := U) (U := U.calling g mk a) (Vm.Alike.refl U.vm) qK, qM⟩, fun U hU hW => ⟨rfl, by rw [hU]; exact hz9, by rw [hU]; exact hPc, va_K.moved hW.alike hK, xN_warm hW hEx⟩⟩ rfl rfl hl.1 rfl (lv_room (Nat.le_of_ble_eq_true rfl)) dX9_init_163 ⟨Nat.le_of_ble_eq_true rfl, Nat.le_of_ble_eq_true rfl⟩) hS (fun q9 _ h9 => fA_sub (by show_term (have zq283 : True := trivial; omega)) q9 h9) (fA_sub (by show_term (have zq284 : True := trivial; omega))) (fun u9 t9 H1 locs ht9 hvm9 hw9 hB9 hz9 hk9 hS => ?_)
  obtain ⟨hP9, -⟩ := hB9
  rw [ht9] at hP9
  have hP := fl_called hP hk9 (by show_term (have zq285 : True := trivial; omega)) hP9 (fun k hk => (cwb_n (by show_term (have zq286 : True := trivial; omega)) (by show_term (have zq287 : True := trivial; omega))).trans (congrArg (fun z => sE cI cZ cII cIII h0 z (fun x => iZ (sI z x))) (by show_term (have zq288 : True := trivial; omega))))
  clear hPo hPc hk9 hP9 hz9
  generalize H1 = H at hP hS ⊢
  refine W.widen (k := 127) (n := 266255) (by show_term (have zq289 : True := trivial; omega)) (by show_term (have zq290 : True := trivial; omega)) ?_
  have hP : va_P (dC, dI) vwCl (fl h0 128 (cwb (fun k => sE cI cZ cII cIII h0 k (fun x => iZ (sI k x))) 9 [.ref (h0 + 1), .ref (h0 + 5), .int (iZ 0), .ref (h0 + 6), .ref (h0 + 12), .int (iZ 0), .int (iZ 0), .ref (h0 + 18), .ref (h0 + 38), .ref (h0 + 41), .ref (h0 + 45), .ref (h0 + 48), .ref (h0 + 110), .ref (h0 + 111), .ref (h0 + 112)] 5 (qN cZ 8 (fun i => h0 + (113 + i * 15)) 0))) H := hP
  refine W.eq (g2 := F0 m 166 ls [.ref (h0 + 113), .int (iZ 0), .ref (h0 + 5)]) rfl ?_
  refine cz_ast (a := h0) (n := 128) (ci := 9) (sp := 5) (N := 8) (j := 0) (k := 113) (ci2 := 1) (Rf := (fun k => sE cI cZ cII cIII h0 k (fun x => iZ (sI k x)))) (fs := [.ref (h0 + 1), .ref (h0 + 5), .int (iZ 0), .ref (h0 + 6), .ref (h0 + 12), .int (iZ 0), .int (iZ 0), .ref (h0 + 18), .ref (h0 + 38), .ref (h0 + 41), .ref (h0 + 45), .ref (h0 + 48), .ref (h0 + 110), .ref (h0 + 111), .ref (h0 + 112)]) (cA := cZ) (g := (fun i => h0 + (113 + i * 15))) (r := (RX1, TX1, 8)) hx hb hK hP (fl_D (hAD 128 (by decide))) hS 1 rfl (by decide) (sE_leafO (i := 0) (by decide) rfl _) rfl (by decide +kernel) (by unfold vp_in; decide +kernel) rfl dX9_init_166 (fun H locs hP hS => ?_)
  have hP : va_P (dC, dI) vwCl (fl h0 128 (cwb (fun k => sE cI cZ cII cIII h0 k (fun x => iZ (sI k x))) 9 [.ref (h0 + 1), .ref (h0 + 5), .int (iZ 0), .ref (h0 + 6), .ref (h0 + 12), .int (iZ 0), .int (iZ 0), .ref (h0 + 18), .ref (h0 + 38), .ref (h0 + 41), .ref (h0 + 45), .ref (h0 + 48), .ref (h0 + 110), .ref (h0 + 111), .ref (h0 + 112)] 5 (qN cZ 8 (fun i => h0 + (113 + i * 15)) 1))) H := hP
  refine lv_iinc (v := iZ 1) (lv' := [(1, .int (iZ 1)), (0, .ref h0)]) hx hb dX9_init_167 hl (k := 0) rfl (by decide +kernel) (by decide) rfl (fun ls hl => ?_)
  refine lv_goto (tgt := 148) hx hb dX9_init_170 (by decide) ?_
  refine lv_iload_n hx hb dX9_init_148 rfl (lv_at hl 0 rfl) ?_
  refine lv_bipush (v := iZ 8) hx hb dX9_init_149 rfl ?_
  refine lv_icmp_ge (tgt := 173) hx hb dX9_init_151 (by decide) (fun c9 => absurd c9 (by decide +kernel)) (fun _ => ?_)
  refine lv_aload_n hx hb dX9_init_154 rfl (lv_at hl 1 rfl) ?_
  refine va_get (D := (dC, dI)) (ci := 9) (v := .ref (h0 + 5)) (C := RX9) (T := TX9) (N := 15) hx hb hts inG9 hown hK hP 0 (cwb_get (by decide)) rfl 1 (by decide) (hts _ k333) (fun _ h9 => h9) rfl dX9_init_155 ?_
  refine lv_iload_n hx hb dX9_init_158 rfl (lv_at hl 0 rfl) ?_
  refine cz_obj (h0 := h0) (n := 128) (ci := 1) (fs := [.null, .null, .int 0, .null, .null, .int 0, .null, .null]) (C := RX1) (T := TX1) (N := 8) hx hb hts inG1 tyX1 tyX1_ok hown (hts _ k66) (hts _ k258) (hts _ k10) hK hP (by decide) (by show_term (have zq291 : True := trivial; omega)) hS rfl (fun j hj => by rcases (show j = 0 ∨ j = 1 ∨ j = 2 ∨ j = 3 ∨ j = 4 ∨ j = 5 ∨ j = 6 ∨ j = 7 by show_term (have zq292 : True := trivial; omega)) with rfl | rfl | rfl | rfl | rfl | rfl | rfl | rfl <;> rfl) (Nat.le_of_ble_eq_true rfl) (Nat.le_of_ble_eq_true rfl) dX9_init_159 (fun H hz9 hP hPo hS => ?_)
  refine W.widen (k := 128) (n := 266263) (by show_term (have zq293 : True := trivial; omega)) (by show_term (have zq294 : True := trivial; omega)) ?_
  refine W.eq (g2 := F0 m 162 ls [.ref (h0 + 128), .int (iZ 1), .ref (h0 + 5)]) rfl ?_
  refine lv_dup hx hb dX9_init_162 rfl ?_
  have hPc : va_P (dC, dI) vwCl (fl (h0 + 128) 1 (cwb (fun k => sE cI cZ cII cIII h0 (128 + k) (fun x => iZ (sI (128 + k) x))) 1 [.null, .null, .int 0, .null, .null, .int 0, .null, .null] 0 ((fun k => sE cI cZ cII cIII h0 (128 + k) (fun x => iZ (sI (128 + k) x))) 0))) H := fl_P (fun k hk => by obtain rfl : k = 0 := (by show_term (have zq295 : True := trivial; omega)); exact fl_at hPo hk)
  refine va_callv (va_runIN (As := []) (rest := [.ref (h0 + 128), .int (iZ 1), .ref (h0 + 5)]) ⟨hx, hb, hml, hown, hts⟩ (k_Leaf l dC dI h0 cI cZ cII cIII 128 1 (by decide) rfl) ⟨va_cnB (host := "PageSkeleton") 0 hts (gI_G k261) rfl rfl rfl (xN_nest hEx 5 rfl) (hts _ k10) (by decide +kernel) ⟨Nat.le_of_ble_eq_true rfl, Nat.le_of_ble_eq_true rfl⟩, rfl, hts _ k260⟩ ⟨fun a U g mk q => by obtain ⟨q0, q1, qP, qK, qM⟩ := q; exact ⟨q0, q1, qP, va_K.moved (u := U) (U := U.calling g mk a) (Vm.Alike.refl U.vm) qK, qM⟩, fun U hU hW => ⟨rfl, by rw [hU]; exact hz9, by rw [hU]; exact hPc, va_K.moved hW.alike hK, xN_warm hW hEx⟩⟩ rfl rfl hl.1 rfl (lv_room (Nat.le_of_ble_eq_true rfl)) dX9_init_163 ⟨Nat.le_of_ble_eq_true rfl, Nat.le_of_ble_eq_true rfl⟩) hS (fun q9 _ h9 => fA_sub (by show_term (have zq296 : True := trivial; omega)) q9 h9) (fA_sub (by show_term (have zq297 : True := trivial; omega))) (fun u9 t9 H1 locs ht9 hvm9 hw9 hB9 hz9 hk9 hS => ?_)
  obtain ⟨hP9, -⟩ := hB9
  rw [ht9] at hP9
  have hP := fl_called hP hk9 (by show_term (have zq298 : True := trivial; omega)) hP9 (fun k hk => (cwb_n (by show_term (have zq299 : True := trivial; omega)) (by show_term (have zq300 : True := trivial; omega))).trans (congrArg (fun z => sE cI cZ cII cIII h0 z (fun x => iZ (sI z x))) (by show_term (have zq301 : True := trivial; omega))))
  clear hPo hPc hk9 hP9 hz9
  generalize H1 = H at hP hS ⊢
  refine W.widen (k := 142) (n := 269378) (by show_term (have zq302 : True := trivial; omega)) (by show_term (have zq303 : True := trivial; omega)) ?_
  have hP : va_P (dC, dI) vwCl (fl h0 143 (cwb (fun k => sE cI cZ cII cIII h0 k (fun x => iZ (sI k x))) 9 [.ref (h0 + 1), .ref (h0 + 5), .int (iZ 0), .ref (h0 + 6), .ref (h0 + 12), .int (iZ 0), .int (iZ 0), .ref (h0 + 18), .ref (h0 + 38), .ref (h0 + 41), .ref (h0 + 45), .ref (h0 + 48), .ref (h0 + 110), .ref (h0 + 111), .ref (h0 + 112)] 5 (qN cZ 8 (fun i => h0 + (113 + i * 15)) 1))) H := hP
  refine W.eq (g2 := F0 m 166 ls [.ref (h0 + 128), .int (iZ 1), .ref (h0 + 5)]) rfl ?_
  refine cz_ast (a := h0) (n := 143) (ci := 9) (sp := 5) (N := 8) (j := 1) (k := 128) (ci2 := 1) (Rf := (fun k => sE cI cZ cII cIII h0 k (fun x => iZ (sI k x)))) (fs := [.ref (h0 + 1), .ref (h0 + 5), .int (iZ 0), .ref (h0 + 6), .ref (h0 + 12), .int (iZ 0), .int (iZ 0), .ref (h0 + 18), .ref (h0 + 38), .ref (h0 + 41), .ref (h0 + 45), .ref (h0 + 48), .ref (h0 + 110), .ref (h0 + 111), .ref (h0 + 112)]) (cA := cZ) (g := (fun i => h0 + (113 + i * 15))) (r := (RX1, TX1, 8)) hx hb hK hP (fl_D (hAD 143 (by decide))) hS 1 rfl (by decide) (sE_leafO (i := 1) (by decide) rfl _) rfl (by decide +kernel) (by unfold vp_in; decide +kernel) rfl dX9_init_166 (fun H locs hP hS => ?_)
  have hP : va_P (dC, dI) vwCl (fl h0 143 (cwb (fun k => sE cI cZ cII cIII h0 k (fun x => iZ (sI k x))) 9 [.ref (h0 + 1), .ref (h0 + 5), .int (iZ 0), .ref (h0 + 6), .ref (h0 + 12), .int (iZ 0), .int (iZ 0), .ref (h0 + 18), .ref (h0 + 38), .ref (h0 + 41), .ref (h0 + 45), .ref (h0 + 48), .ref (h0 + 110), .ref (h0 + 111), .ref (h0 + 112)] 5 (qN cZ 8 (fun i => h0 + (113 + i * 15)) 2))) H := hP
  refine lv_iinc (v := iZ 2) (lv' := [(1, .int (iZ 2)), (0, .ref h0)]) hx hb dX9_init_167 hl (k := 0) rfl (by decide +kernel) (by decide) rfl (fun ls hl => ?_)
  refine lv_goto (tgt := 148) hx hb dX9_init_170 (by decide) ?_
  refine lv_iload_n hx hb dX9_init_148 rfl (lv_at hl 0 rfl) ?_
  refine lv_bipush (v := iZ 8) hx hb dX9_init_149 rfl ?_
  refine lv_icmp_ge (tgt := 173) hx hb dX9_init_151 (by decide) (fun c9 => absurd c9 (by decide +kernel)) (fun _ => ?_)
  refine lv_aload_n hx hb dX9_init_154 rfl (lv_at hl 1 rfl) ?_
  refine va_get (D := (dC, dI)) (ci := 9) (v := .ref (h0 + 5)) (C := RX9) (T := TX9) (N := 15) hx hb hts inG9 hown hK hP 0 (cwb_get (by decide)) rfl 1 (by decide) (hts _ k333) (fun _ h9 => h9) rfl dX9_init_155 ?_
  refine lv_iload_n hx hb dX9_init_158 rfl (lv_at hl 0 rfl) ?_
  refine cz_obj (h0 := h0) (n := 143) (ci := 1) (fs := [.null, .null, .int 0, .null, .null, .int 0, .null, .null]) (C := RX1) (T := TX1) (N := 8) hx hb hts inG1 tyX1 tyX1_ok hown (hts _ k66) (hts _ k258) (hts _ k10) hK hP (by decide) (by show_term (have zq304 : True := trivial; omega)) hS rfl (fun j hj => by rcases (show j = 0 ∨ j = 1 ∨ j = 2 ∨ j = 3 ∨ j = 4 ∨ j = 5 ∨ j = 6 ∨ j = 7 by show_term (have zq305 : True := trivial; omega)) with rfl | rfl | rfl | rfl | rfl | rfl | rfl | rfl <;> rfl) (Nat.le_of_ble_eq_true rfl) (Nat.le_of_ble_eq_true rfl) dX9_init_159 (fun H hz9 hP hPo hS => ?_)
  refine W.widen (k := 143) (n := 269386) (by show_term (have zq306 : True := trivial; omega)) (by show_term (have zq307 : True := trivial; omega)) ?_
  refine W.eq (g2 := F0 m 162 ls [.ref (h0 + 143), .int (iZ 2), .ref (h0 + 5)]) rfl ?_
  refine lv_dup hx hb dX9_init_162 rfl ?_
  have hPc : va_P (dC, dI) vwCl (fl (h0 + 143) 1 (cwb (fun k => sE cI cZ cII cIII h0 (143 + k) (fun x => iZ (sI (143 + k) x))) 1 [.null, .null, .int 0, .null, .null, .int 0, .null, .null] 0 ((fun k => sE cI cZ cII cIII h0 (143 + k) (fun x => iZ (sI (143 + k) x))) 0))) H := fl_P (fun k hk => by obtain rfl : k = 0 := (by show_term (have zq308 : True := trivial; omega)); exact fl_at hPo hk)
  refine va_callv (va_runIN (As := []) (rest := [.ref (h0 + 143), .int (iZ 2), .ref (h0 + 5)]) ⟨hx, hb, hml, hown, hts⟩ (k_Leaf l dC dI h0 cI cZ cII cIII 143 2 (by decide) rfl) ⟨va_cnB (host := "PageSkeleton") 0 hts (gI_G k261) rfl rfl rfl (xN_nest hEx 5 rfl) (hts _ k10) (by decide +kernel) ⟨Nat.le_of_ble_eq_true rfl, Nat.le_of_ble_eq_true rfl⟩, rfl, hts _ k260⟩ ⟨fun a U g mk q => by obtain ⟨q0, q1, qP, qK, qM⟩ := q; exact ⟨q0, q1, qP, va_K.moved (u := U) (U := U.calling g mk a) (Vm.Alike.refl U.vm) qK, qM⟩, fun U hU hW => ⟨rfl, by rw [hU]; exact hz9, by rw [hU]; exact hPc, va_K.moved hW.alike hK, xN_warm hW hEx⟩⟩ rfl rfl hl.1 rfl (lv_room (Nat.le_of_ble_eq_true rfl)) dX9_init_163 ⟨Nat.le_of_ble_eq_true rfl, Nat.le_of_ble_eq_true rfl⟩) hS (fun q9 _ h9 => fA_sub (by show_term (have zq309 : True := trivial; omega)) q9 h9) (fA_sub (by show_term (have zq310 : True := trivial; omega))) (fun u9 t9 H1 locs ht9 hvm9 hw9 hB9 hz9 hk9 hS => ?_)
  obtain ⟨hP9, -⟩ := hB9
  rw [ht9] at hP9
  have hP := fl_called hP hk9 (by show_term (have zq311 : True := trivial; omega)) hP9 (fun k hk => (cwb_n (by show_term (have zq312 : True := trivial; omega)) (by show_term (have zq313 : True := trivial; omega))).trans (congrArg (fun z => sE cI cZ cII cIII h0 z (fun x => iZ (sI z x))) (by show_term (have zq314 : True := trivial; omega))))
  clear hPo hPc hk9 hP9 hz9
  generalize H1 = H at hP hS ⊢
  refine W.widen (k := 157) (n := 272501) (by show_term (have zq315 : True := trivial; omega)) (by show_term (have zq316 : True := trivial; omega)) ?_
  have hP : va_P (dC, dI) vwCl (fl h0 158 (cwb (fun k => sE cI cZ cII cIII h0 k (fun x => iZ (sI k x))) 9 [.ref (h0 + 1), .ref (h0 + 5), .int (iZ 0), .ref (h0 + 6), .ref (h0 + 12), .int (iZ 0), .int (iZ 0), .ref (h0 + 18), .ref (h0 + 38), .ref (h0 + 41), .ref (h0 + 45), .ref (h0 + 48), .ref (h0 + 110), .ref (h0 + 111), .ref (h0 + 112)] 5 (qN cZ 8 (fun i => h0 + (113 + i * 15)) 2))) H := hP
  refine W.eq (g2 := F0 m 166 ls [.ref (h0 + 143), .int (iZ 2), .ref (h0 + 5)]) rfl ?_
  refine cz_ast (a := h0) (n := 158) (ci := 9) (sp := 5) (N := 8) (j := 2) (k := 143) (ci2 := 1) (Rf := (fun k => sE cI cZ cII cIII h0 k (fun x => iZ (sI k x)))) (fs := [.ref (h0 + 1), .ref (h0 + 5), .int (iZ 0), .ref (h0 + 6), .ref (h0 + 12), .int (iZ 0), .int (iZ 0), .ref (h0 + 18), .ref (h0 + 38), .ref (h0 + 41), .ref (h0 + 45), .ref (h0 + 48), .ref (h0 + 110), .ref (h0 + 111), .ref (h0 + 112)]) (cA := cZ) (g := (fun i => h0 + (113 + i * 15))) (r := (RX1, TX1, 8)) hx hb hK hP (fl_D (hAD 158 (by decide))) hS 1 rfl (by decide) (sE_leafO (i := 2) (by decide) rfl _) rfl (by decide +kernel) (by unfold vp_in; decide +kernel) rfl dX9_init_166 (fun H locs hP hS => ?_)
  have hP : va_P (dC, dI) vwCl (fl h0 158 (cwb (fun k => sE cI cZ cII cIII h0 k (fun x => iZ (sI k x))) 9 [.ref (h0 + 1), .ref (h0 + 5), .int (iZ 0), .ref (h0 + 6), .ref (h0 + 12), .int (iZ 0), .int (iZ 0), .ref (h0 + 18), .ref (h0 + 38), .ref (h0 + 41), .ref (h0 + 45), .ref (h0 + 48), .ref (h0 + 110), .ref (h0 + 111), .ref (h0 + 112)] 5 (qN cZ 8 (fun i => h0 + (113 + i * 15)) 3))) H := hP
  refine lv_iinc (v := iZ 3) (lv' := [(1, .int (iZ 3)), (0, .ref h0)]) hx hb dX9_init_167 hl (k := 0) rfl (by decide +kernel) (by decide) rfl (fun ls hl => ?_)
  refine lv_goto (tgt := 148) hx hb dX9_init_170 (by decide) ?_
  refine lv_iload_n hx hb dX9_init_148 rfl (lv_at hl 0 rfl) ?_
  refine lv_bipush (v := iZ 8) hx hb dX9_init_149 rfl ?_
  refine lv_icmp_ge (tgt := 173) hx hb dX9_init_151 (by decide) (fun c9 => absurd c9 (by decide +kernel)) (fun _ => ?_)
  refine lv_aload_n hx hb dX9_init_154 rfl (lv_at hl 1 rfl) ?_
  refine va_get (D := (dC, dI)) (ci := 9) (v := .ref (h0 + 5)) (C := RX9) (T := TX9) (N := 15) hx hb hts inG9 hown hK hP 0 (cwb_get (by decide)) rfl 1 (by decide) (hts _ k333) (fun _ h9 => h9) rfl dX9_init_155 ?_
  refine lv_iload_n hx hb dX9_init_158 rfl (lv_at hl 0 rfl) ?_
  refine cz_obj (h0 := h0) (n := 158) (ci := 1) (fs := [.null, .null, .int 0, .null, .null, .int 0, .null, .null]) (C := RX1) (T := TX1) (N := 8) hx hb hts inG1 tyX1 tyX1_ok hown (hts _ k66) (hts _ k258) (hts _ k10) hK hP (by decide) (by show_term (have zq317 : True := trivial; omega)) hS rfl (fun j hj => by rcases (show j = 0 ∨ j = 1 ∨ j = 2 ∨ j = 3 ∨ j = 4 ∨ j = 5 ∨ j = 6 ∨ j = 7 by show_term (have zq318 : True := trivial; omega)) with rfl | rfl | rfl | rfl | rfl | rfl | rfl | rfl <;> rfl) (Nat.le_of_ble_eq_true rfl) (Nat.le_of_ble_eq_true rfl) dX9_init_159 (fun H hz9 hP hPo hS => ?_)
  refine W.widen (k := 158) (n := 272509) (by show_term (have zq319 : True := trivial; omega)) (by show_term (have zq320 : True := trivial; omega)) ?_
  refine W.eq (g2 := F0 m 162 ls [.ref (h0 + 158), .int (iZ 3), .ref (h0 + 5)]) rfl ?_
  refine lv_dup hx hb dX9_init_162 rfl ?_
  have hPc : va_P (dC, dI) vwCl (fl (h0 + 158) 1 (cwb (fun k => sE cI cZ cII cIII h0 (158 + k) (fun x => iZ (sI (158 + k) x))) 1 [.null, .null, .int 0, .null, .null, .int 0, .null, .null] 0 ((fun k => sE cI cZ cII cIII h0 (158 + k) (fun x => iZ (sI (158 + k) x))) 0))) H := fl_P (fun k hk => by obtain rfl : k = 0 := (by show_term (have zq321 : True := trivial; omega)); exact fl_at hPo hk)
  refine va_callv (va_runIN (As := []) (rest := [.ref (h0 + 158), .int (iZ 3), .ref (h0 + 5)]) ⟨hx, hb, hml, hown, hts⟩ (k_Leaf l dC dI h0 cI cZ cII cIII 158 3 (by decide) rfl) ⟨va_cnB (host := "PageSkeleton") 0 hts (gI_G k261) rfl rfl rfl (xN_nest hEx 5 rfl) (hts _ k10) (by decide +kernel) ⟨Nat.le_of_ble_eq_true rfl, Nat.le_of_ble_eq_true rfl⟩, rfl, hts _ k260⟩ ⟨fun a U g mk q => by obtain ⟨q0, q1, qP, qK, qM⟩ := q; exact ⟨q0, q1, qP, va_K.moved (u := U) (U := U.calling g mk a) (Vm.Alike.refl U.vm) qK, qM⟩, fun U hU hW => ⟨rfl, by rw [hU]; exact hz9, by rw [hU]; exact hPc, va_K.moved hW.alike hK, xN_warm hW hEx⟩⟩ rfl rfl hl.1 rfl (lv_room (Nat.le_of_ble_eq_true rfl)) dX9_init_163 ⟨Nat.le_of_ble_eq_true rfl, Nat.le_of_ble_eq_true rfl⟩) hS (fun q9 _ h9 => fA_sub (by show_term (have zq322 : True := trivial; omega)) q9 h9) (fA_sub (by show_term (have zq323 : True := trivial; omega))) (fun u9 t9 H1 locs ht9 hvm9 hw9 hB9 hz9 hk9 hS => ?_)
  obtain ⟨hP9, -⟩ := hB9
  rw [ht9] at hP9
  have hP := fl_called hP hk9 (by show_term (have zq324 : True := trivial; omega)) hP9 (fun k hk => (cwb_n (by show_term (have zq325 : True := trivial; omega)) (by show_term (have zq326 : True := trivial; omega))).trans (congrArg (fun z => sE cI cZ cII cIII h0 z (fun x => iZ (sI z x))) (by show_term (have zq327 : True := trivial; omega))))
  clear hPo hPc hk9 hP9 hz9
  generalize H1 = H at hP hS ⊢
  refine W.widen (k := 172) (n := 275624) (by show_term (have zq328 : True := trivial; omega)) (by show_term (have zq329 : True := trivial; omega)) ?_
  have hP : va_P (dC, dI) vwCl (fl h0 173 (cwb (fun k => sE cI cZ cII cIII h0 k (fun x => iZ (sI k x))) 9 [.ref (h0 + 1), .ref (h0 + 5), .int (iZ 0), .ref (h0 + 6), .ref (h0 + 12), .int (iZ 0), .int (iZ 0), .ref (h0 + 18), .ref (h0 + 38), .ref (h0 + 41), .ref (h0 + 45), .ref (h0 + 48), .ref (h0 + 110), .ref (h0 + 111), .ref (h0 + 112)] 5 (qN cZ 8 (fun i => h0 + (113 + i * 15)) 3))) H := hP
  refine W.eq (g2 := F0 m 166 ls [.ref (h0 + 158), .int (iZ 3), .ref (h0 + 5)]) rfl ?_
  refine cz_ast (a := h0) (n := 173) (ci := 9) (sp := 5) (N := 8) (j := 3) (k := 158) (ci2 := 1) (Rf := (fun k => sE cI cZ cII cIII h0 k (fun x => iZ (sI k x)))) (fs := [.ref (h0 + 1), .ref (h0 + 5), .int (iZ 0), .ref (h0 + 6), .ref (h0 + 12), .int (iZ 0), .int (iZ 0), .ref (h0 + 18), .ref (h0 + 38), .ref (h0 + 41), .ref (h0 + 45), .ref (h0 + 48), .ref (h0 + 110), .ref (h0 + 111), .ref (h0 + 112)]) (cA := cZ) (g := (fun i => h0 + (113 + i * 15))) (r := (RX1, TX1, 8)) hx hb hK hP (fl_D (hAD 173 (by decide))) hS 1 rfl (by decide) (sE_leafO (i := 3) (by decide) rfl _) rfl (by decide +kernel) (by unfold vp_in; decide +kernel) rfl dX9_init_166 (fun H locs hP hS => ?_)
  have hP : va_P (dC, dI) vwCl (fl h0 173 (cwb (fun k => sE cI cZ cII cIII h0 k (fun x => iZ (sI k x))) 9 [.ref (h0 + 1), .ref (h0 + 5), .int (iZ 0), .ref (h0 + 6), .ref (h0 + 12), .int (iZ 0), .int (iZ 0), .ref (h0 + 18), .ref (h0 + 38), .ref (h0 + 41), .ref (h0 + 45), .ref (h0 + 48), .ref (h0 + 110), .ref (h0 + 111), .ref (h0 + 112)] 5 (qN cZ 8 (fun i => h0 + (113 + i * 15)) 4))) H := hP
  refine lv_iinc (v := iZ 4) (lv' := [(1, .int (iZ 4)), (0, .ref h0)]) hx hb dX9_init_167 hl (k := 0) rfl (by decide +kernel) (by decide) rfl (fun ls hl => ?_)
  refine lv_goto (tgt := 148) hx hb dX9_init_170 (by decide) ?_
  refine lv_iload_n hx hb dX9_init_148 rfl (lv_at hl 0 rfl) ?_
  refine lv_bipush (v := iZ 8) hx hb dX9_init_149 rfl ?_
  refine lv_icmp_ge (tgt := 173) hx hb dX9_init_151 (by decide) (fun c9 => absurd c9 (by decide +kernel)) (fun _ => ?_)
  refine lv_aload_n hx hb dX9_init_154 rfl (lv_at hl 1 rfl) ?_
  refine va_get (D := (dC, dI)) (ci := 9) (v := .ref (h0 + 5)) (C := RX9) (T := TX9) (N := 15) hx hb hts inG9 hown hK hP 0 (cwb_get (by decide)) rfl 1 (by decide) (hts _ k333) (fun _ h9 => h9) rfl dX9_init_155 ?_
  refine lv_iload_n hx hb dX9_init_158 rfl (lv_at hl 0 rfl) ?_
  refine cz_obj (h0 := h0) (n := 173) (ci := 1) (fs := [.null, .null, .int 0, .null, .null, .int 0, .null, .null]) (C := RX1) (T := TX1) (N := 8) hx hb hts inG1 tyX1 tyX1_ok hown (hts _ k66) (hts _ k258) (hts _ k10) hK hP (by decide) (by show_term (have zq330 : True := trivial; omega)) hS rfl (fun j hj => by rcases (show j = 0 ∨ j = 1 ∨ j = 2 ∨ j = 3 ∨ j = 4 ∨ j = 5 ∨ j = 6 ∨ j = 7 by show_term (have zq331 : True := trivial; omega)) with rfl | rfl | rfl | rfl | rfl | rfl | rfl | rfl <;> rfl) (Nat.le_of_ble_eq_true rfl) (Nat.le_of_ble_eq_true rfl) dX9_init_159 (fun H hz9 hP hPo hS => ?_)
  refine W.widen (k := 173) (n := 275632) (by show_term (have zq332 : True := trivial; omega)) (by show_term (have zq333 : True := trivial; omega)) ?_
  refine W.eq (g2 := F0 m 162 ls [.ref (h0 + 173), .int (iZ 4), .ref (h0 + 5)]) rfl ?_
  refine lv_dup hx hb dX9_init_162 rfl ?_
  have hPc : va_P (dC, dI) vwCl (fl (h0 + 173) 1 (cwb (fun k => sE cI cZ cII cIII h0 (173 + k) (fun x => iZ (sI (173 + k) x))) 1 [.null, .null, .int 0, .null, .null, .int 0, .null, .null] 0 ((fun k => sE cI cZ cII cIII h0 (173 + k) (fun x => iZ (sI (173 + k) x))) 0))) H := fl_P (fun k hk => by obtain rfl : k = 0 := (by show_term (have zq334 : True := trivial; omega)); exact fl_at hPo hk)
  refine va_callv (va_runIN (As := []) (rest := [.ref (h0 + 173), .int (iZ 4), .ref (h0 + 5)]) ⟨hx, hb, hml, hown, hts⟩ (k_Leaf l dC dI h0 cI cZ cII cIII 173 4 (by decide) rfl) ⟨va_cnB (host := "PageSkeleton") 0 hts (gI_G k261) rfl rfl rfl (xN_nest hEx 5 rfl) (hts _ k10) (by decide +kernel) ⟨Nat.le_of_ble_eq_true rfl, Nat.le_of_ble_eq_true rfl⟩, rfl, hts _ k260⟩ ⟨fun a U g mk q => by obtain ⟨q0, q1, qP, qK, qM⟩ := q; exact ⟨q0, q1, qP, va_K.moved (u := U) (U := U.calling g mk a) (Vm.Alike.refl U.vm) qK, qM⟩, fun U hU hW => ⟨rfl, by rw [hU]; exact hz9, by rw [hU]; exact hPc, va_K.moved hW.alike hK, xN_warm hW hEx⟩⟩ rfl rfl hl.1 rfl (lv_room (Nat.le_of_ble_eq_true rfl)) dX9_init_163 ⟨Nat.le_of_ble_eq_true rfl, Nat.le_of_ble_eq_true rfl⟩) hS (fun q9 _ h9 => fA_sub (by show_term (have zq335 : True := trivial; omega)) q9 h9) (fA_sub (by show_term (have zq336 : True := trivial; omega))) (fun u9 t9 H1 locs ht9 hvm9 hw9 hB9 hz9 hk9 hS => ?_)
  obtain ⟨hP9, -⟩ := hB9
  rw [ht9] at hP9
  have hP := fl_called hP hk9 (by show_term (have zq337 : True := trivial; omega)) hP9 (fun k hk => (cwb_n (by show_term (have zq338 : True := trivial; omega)) (by show_term (have zq339 : True := trivial; omega))).trans (congrArg (fun z => sE cI cZ cII cIII h0 z (fun x => iZ (sI z x))) (by show_term (have zq340 : True := trivial; omega))))
  clear hPo hPc hk9 hP9 hz9
  generalize H1 = H at hP hS ⊢
  refine W.widen (k := 187) (n := 278747) (by show_term (have zq341 : True := trivial; omega)) (by show_term (have zq342 : True := trivial; omega)) ?_
  have hP : va_P (dC, dI) vwCl (fl h0 188 (cwb (fun k => sE cI cZ cII cIII h0 k (fun x => iZ (sI k x))) 9 [.ref (h0 + 1), .ref (h0 + 5), .int (iZ 0), .ref (h0 + 6), .ref (h0 + 12), .int (iZ 0), .int (iZ 0), .ref (h0 + 18), .ref (h0 + 38), .ref (h0 + 41), .ref (h0 + 45), .ref (h0 + 48), .ref (h0 + 110), .ref (h0 + 111), .ref (h0 + 112)] 5 (qN cZ 8 (fun i => h0 + (113 + i * 15)) 4))) H := hP
  refine W.eq (g2 := F0 m 166 ls [.ref (h0 + 173), .int (iZ 4), .ref (h0 + 5)]) rfl ?_
  refine cz_ast (a := h0) (n := 188) (ci := 9) (sp := 5) (N := 8) (j := 4) (k := 173) (ci2 := 1) (Rf := (fun k => sE cI cZ cII cIII h0 k (fun x => iZ (sI k x)))) (fs := [.ref (h0 + 1), .ref (h0 + 5), .int (iZ 0), .ref (h0 + 6), .ref (h0 + 12), .int (iZ 0), .int (iZ 0), .ref (h0 + 18), .ref (h0 + 38), .ref (h0 + 41), .ref (h0 + 45), .ref (h0 + 48), .ref (h0 + 110), .ref (h0 + 111), .ref (h0 + 112)]) (cA := cZ) (g := (fun i => h0 + (113 + i * 15))) (r := (RX1, TX1, 8)) hx hb hK hP (fl_D (hAD 188 (by decide))) hS 1 rfl (by decide) (sE_leafO (i := 4) (by decide) rfl _) rfl (by decide +kernel) (by unfold vp_in; decide +kernel) rfl dX9_init_166 (fun H locs hP hS => ?_)
  have hP : va_P (dC, dI) vwCl (fl h0 188 (cwb (fun k => sE cI cZ cII cIII h0 k (fun x => iZ (sI k x))) 9 [.ref (h0 + 1), .ref (h0 + 5), .int (iZ 0), .ref (h0 + 6), .ref (h0 + 12), .int (iZ 0), .int (iZ 0), .ref (h0 + 18), .ref (h0 + 38), .ref (h0 + 41), .ref (h0 + 45), .ref (h0 + 48), .ref (h0 + 110), .ref (h0 + 111), .ref (h0 + 112)] 5 (qN cZ 8 (fun i => h0 + (113 + i * 15)) 5))) H := hP
  refine lv_iinc (v := iZ 5) (lv' := [(1, .int (iZ 5)), (0, .ref h0)]) hx hb dX9_init_167 hl (k := 0) rfl (by decide +kernel) (by decide) rfl (fun ls hl => ?_)
  refine lv_goto (tgt := 148) hx hb dX9_init_170 (by decide) ?_
  refine lv_iload_n hx hb dX9_init_148 rfl (lv_at hl 0 rfl) ?_
  refine lv_bipush (v := iZ 8) hx hb dX9_init_149 rfl ?_
  refine lv_icmp_ge (tgt := 173) hx hb dX9_init_151 (by decide) (fun c9 => absurd c9 (by decide +kernel)) (fun _ => ?_)
  refine lv_aload_n hx hb dX9_init_154 rfl (lv_at hl 1 rfl) ?_
  refine va_get (D := (dC, dI)) (ci := 9) (v := .ref (h0 + 5)) (C := RX9) (T := TX9) (N := 15) hx hb hts inG9 hown hK hP 0 (cwb_get (by decide)) rfl 1 (by decide) (hts _ k333) (fun _ h9 => h9) rfl dX9_init_155 ?_
  refine lv_iload_n hx hb dX9_init_158 rfl (lv_at hl 0 rfl) ?_
  refine cz_obj (h0 := h0) (n := 188) (ci := 1) (fs := [.null, .null, .int 0, .null, .null, .int 0, .null, .null]) (C := RX1) (T := TX1) (N := 8) hx hb hts inG1 tyX1 tyX1_ok hown (hts _ k66) (hts _ k258) (hts _ k10) hK hP (by decide) (by show_term (have zq343 : True := trivial; omega)) hS rfl (fun j hj => by rcases (show j = 0 ∨ j = 1 ∨ j = 2 ∨ j = 3 ∨ j = 4 ∨ j = 5 ∨ j = 6 ∨ j = 7 by show_term (have zq344 : True := trivial; omega)) with rfl | rfl | rfl | rfl | rfl | rfl | rfl | rfl <;> rfl) (Nat.le_of_ble_eq_true rfl) (Nat.le_of_ble_eq_true rfl) dX9_init_159 (fun H hz9 hP hPo hS => ?_)
  refine W.widen (k := 188) (n := 278755) (by show_term (have zq345 : True := trivial; omega)) (by show_term (have zq346 : True := trivial; omega)) ?_
  refine W.eq (g2 := F0 m 162 ls [.ref (h0 + 188), .int (iZ 5), .ref (h0 + 5)]) rfl ?_
  refine lv_dup hx hb dX9_init_162 rfl ?_
  have hPc : va_P (dC, dI) vwCl (fl (h0 + 188) 1 (cwb (fun k => sE cI cZ cII cIII h0 (188 + k) (fun x => iZ (sI (188 + k) x))) 1 [.null, .null, .int 0, .null, .null, .int 0, .null, .null] 0 ((fun k => sE cI cZ cII cIII h0 (188 + k) (fun x => iZ (sI (188 + k) x))) 0))) H := fl_P (fun k hk => by obtain rfl : k = 0 := (by show_term (have zq347 : True := trivial; omega)); exact fl_at hPo hk)
  refine va_callv (va_runIN (As := []) (rest := [.ref (h0 + 188), .int (iZ 5), .ref (h0 + 5)]) ⟨hx, hb, hml, hown, hts⟩ (k_Leaf l dC dI h0 cI cZ cII cIII 188 5 (by decide) rfl) ⟨va_cnB (host := "PageSkeleton") 0 hts (gI_G k261) rfl rfl rfl (xN_nest hEx 5 rfl) (hts _ k10) (by decide +kernel) ⟨Nat.le_of_ble_eq_true rfl, Nat.le_of_ble_eq_true rfl⟩, rfl, hts _ k260⟩ ⟨fun a U g mk q => by obtain ⟨q0, q1, qP, qK, qM⟩ := q; exact ⟨q0, q1, qP, va_K.moved (u := U) (U := U.calling g mk a) (Vm.Alike.refl U.vm) qK, qM⟩, fun U hU hW => ⟨rfl, by rw [hU]; exact hz9, by rw [hU]; exact hPc, va_K.moved hW.alike hK, xN_warm hW hEx⟩⟩ rfl rfl hl.1 rfl (lv_room (Nat.le_of_ble_eq_true rfl)) dX9_init_163 ⟨Nat.le_of_ble_eq_true rfl, Nat.le_of_ble_eq_true rfl⟩) hS (fun q9 _ h9 => fA_sub (by show_term (have zq348 : True := trivial; omega)) q9 h9) (fA_sub (by show_term (have zq349 : True := trivial; omega))) (fun u9 t9 H1 locs ht9 hvm9 hw9 hB9 hz9 hk9 hS => ?_)
  obtain ⟨hP9, -⟩ := hB9
  rw [ht9] at hP9
  have hP := fl_called hP hk9 (by show_term (have zq350 : True := trivial; omega)) hP9 (fun k hk => (cwb_n (by show_term (have zq351 : True := trivial; omega)) (by show_term (have zq352 : True := trivial; omega))).trans (congrArg (fun z => sE cI cZ cII cIII h0 z (fun x => iZ (sI z x))) (by show_term (have zq353 : True := trivial; omega))))
  clear hPo hPc hk9 hP9 hz9
  generalize H1 = H at hP hS ⊢
  refine W.widen (k := 202) (n := 281870) (by show_term (have zq354 : True := trivial; omega)) (by show_term (have zq355 : True := trivial; omega)) ?_
  have hP : va_P (dC, dI) vwCl (fl h0 203 (cwb (fun k => sE cI cZ cII cIII h0 k (fun x => iZ (sI k x))) 9 [.ref (h0 + 1), .ref (h0 + 5), .int (iZ 0), .ref (h0 + 6), .ref (h0 + 12), .int (iZ 0), .int (iZ 0), .ref (h0 + 18), .ref (h0 + 38), .ref (h0 + 41), .ref (h0 + 45), .ref (h0 + 48), .ref (h0 + 110), .ref (h0 + 111), .ref (h0 + 112)] 5 (qN cZ 8 (fun i => h0 + (113 + i * 15)) 5))) H := hP
  refine W.eq (g2 := F0 m 166 ls [.ref (h0 + 188), .int (iZ 5), .ref (h0 + 5)]) rfl ?_
  refine cz_ast (a := h0) (n := 203) (ci := 9) (sp := 5) (N := 8) (j := 5) (k := 188) (ci2 := 1) (Rf := (fun k => sE cI cZ cII cIII h0 k (fun x => iZ (sI k x)))) (fs := [.ref (h0 + 1), .ref (h0 + 5), .int (iZ 0), .ref (h0 + 6), .ref (h0 + 12), .int (iZ 0), .int (iZ 0), .ref (h0 + 18), .ref (h0 + 38), .ref (h0 + 41), .ref (h0 + 45), .ref (h0 + 48), .ref (h0 + 110), .ref (h0 + 111), .ref (h0 + 112)]) (cA := cZ) (g := (fun i => h0 + (113 + i * 15))) (r := (RX1, TX1, 8)) hx hb hK hP (fl_D (hAD 203 (by decide))) hS 1 rfl (by decide) (sE_leafO (i := 5) (by decide) rfl _) rfl (by decide +kernel) (by unfold vp_in; decide +kernel) rfl dX9_init_166 (fun H locs hP hS => ?_)
  have hP : va_P (dC, dI) vwCl (fl h0 203 (cwb (fun k => sE cI cZ cII cIII h0 k (fun x => iZ (sI k x))) 9 [.ref (h0 + 1), .ref (h0 + 5), .int (iZ 0), .ref (h0 + 6), .ref (h0 + 12), .int (iZ 0), .int (iZ 0), .ref (h0 + 18), .ref (h0 + 38), .ref (h0 + 41), .ref (h0 + 45), .ref (h0 + 48), .ref (h0 + 110), .ref (h0 + 111), .ref (h0 + 112)] 5 (qN cZ 8 (fun i => h0 + (113 + i * 15)) 6))) H := hP
  refine lv_iinc (v := iZ 6) (lv' := [(1, .int (iZ 6)), (0, .ref h0)]) hx hb dX9_init_167 hl (k := 0) rfl (by decide +kernel) (by decide) rfl (fun ls hl => ?_)
  refine lv_goto (tgt := 148) hx hb dX9_init_170 (by decide) ?_
  refine lv_iload_n hx hb dX9_init_148 rfl (lv_at hl 0 rfl) ?_
  refine lv_bipush (v := iZ 8) hx hb dX9_init_149 rfl ?_
  refine lv_icmp_ge (tgt := 173) hx hb dX9_init_151 (by decide) (fun c9 => absurd c9 (by decide +kernel)) (fun _ => ?_)
  refine lv_aload_n hx hb dX9_init_154 rfl (lv_at hl 1 rfl) ?_
  refine va_get (D := (dC, dI)) (ci := 9) (v := .ref (h0 + 5)) (C := RX9) (T := TX9) (N := 15) hx hb hts inG9 hown hK hP 0 (cwb_get (by decide)) rfl 1 (by decide) (hts _ k333) (fun _ h9 => h9) rfl dX9_init_155 ?_
  refine lv_iload_n hx hb dX9_init_158 rfl (lv_at hl 0 rfl) ?_
  refine cz_obj (h0 := h0) (n := 203) (ci := 1) (fs := [.null, .null, .int 0, .null, .null, .int 0, .null, .null]) (C := RX1) (T := TX1) (N := 8) hx hb hts inG1 tyX1 tyX1_ok hown (hts _ k66) (hts _ k258) (hts _ k10) hK hP (by decide) (by show_term (have zq356 : True := trivial; omega)) hS rfl (fun j hj => by rcases (show j = 0 ∨ j = 1 ∨ j = 2 ∨ j = 3 ∨ j = 4 ∨ j = 5 ∨ j = 6 ∨ j = 7 by show_term (have zq357 : True := trivial; omega)) with rfl | rfl | rfl | rfl | rfl | rfl | rfl | rfl <;> rfl) (Nat.le_of_ble_eq_true rfl) (Nat.le_of_ble_eq_true rfl) dX9_init_159 (fun H hz9 hP hPo hS => ?_)
  refine W.widen (k := 203) (n := 281878) (by show_term (have zq358 : True := trivial; omega)) (by show_term (have zq359 : True := trivial; omega)) ?_
  refine W.eq (g2 := F0 m 162 ls [.ref (h0 + 203), .int (iZ 6), .ref (h0 + 5)]) rfl ?_
  refine lv_dup hx hb dX9_init_162 rfl ?_
  have hPc : va_P (dC, dI) vwCl (fl (h0 + 203) 1 (cwb (fun k => sE cI cZ cII cIII h0 (203 + k) (fun x => iZ (sI (203 + k) x))) 1 [.null, .null, .int 0, .null, .null, .int 0, .null, .null] 0 ((fun k => sE cI cZ cII cIII h0 (203 + k) (fun x => iZ (sI (203 + k) x))) 0))) H := fl_P (fun k hk => by obtain rfl : k = 0 := (by show_term (have zq360 : True := trivial; omega)); exact fl_at hPo hk)
  refine va_callv (va_runIN (As := []) (rest := [.ref (h0 + 203), .int (iZ 6), .ref (h0 + 5)]) ⟨hx, hb, hml, hown, hts⟩ (k_Leaf l dC dI h0 cI cZ cII cIII 203 6 (by decide) rfl) ⟨va_cnB (host := "PageSkeleton") 0 hts (gI_G k261) rfl rfl rfl (xN_nest hEx 5 rfl) (hts _ k10) (by decide +kernel) ⟨Nat.le_of_ble_eq_true rfl, Nat.le_of_ble_eq_true rfl⟩, rfl, hts _ k260⟩ ⟨fun a U g mk q => by obtain ⟨q0, q1, qP, qK, qM⟩ := q; exact ⟨q0, q1, qP, va_K.moved (u := U) (U := U.calling g mk a) (Vm.Alike.refl U.vm) qK, qM⟩, fun U hU hW => ⟨rfl, by rw [hU]; exact hz9, by rw [hU]; exact hPc, va_K.moved hW.alike hK, xN_warm hW hEx⟩⟩ rfl rfl hl.1 rfl (lv_room (Nat.le_of_ble_eq_true rfl)) dX9_init_163 ⟨Nat.le_of_ble_eq_true rfl, Nat.le_of_ble_eq_true rfl⟩) hS (fun q9 _ h9 => fA_sub (by show_term (have zq361 : True := trivial; omega)) q9 h9) (fA_sub (by show_term (have zq362 : True := trivial; omega))) (fun u9 t9 H1 locs ht9 hvm9 hw9 hB9 hz9 hk9 hS => ?_)
  obtain ⟨hP9, -⟩ := hB9
  rw [ht9] at hP9
  have hP := fl_called hP hk9 (by show_term (have zq363 : True := trivial; omega)) hP9 (fun k hk => (cwb_n (by show_term (have zq364 : True := trivial; omega)) (by show_term (have zq365 : True := trivial; omega))).trans (congrArg (fun z => sE cI cZ cII cIII h0 z (fun x => iZ (sI z x))) (by show_term (have zq366 : True := trivial; omega))))
  clear hPo hPc hk9 hP9 hz9
  generalize H1 = H at hP hS ⊢
  refine W.widen (k := 217) (n := 284993) (by show_term (have zq367 : True := trivial; omega)) (by show_term (have zq368 : True := trivial; omega)) ?_
  have hP : va_P (dC, dI) vwCl (fl h0 218 (cwb (fun k => sE cI cZ cII cIII h0 k (fun x => iZ (sI k x))) 9 [.ref (h0 + 1), .ref (h0 + 5), .int (iZ 0), .ref (h0 + 6), .ref (h0 + 12), .int (iZ 0), .int (iZ 0), .ref (h0 + 18), .ref (h0 + 38), .ref (h0 + 41), .ref (h0 + 45), .ref (h0 + 48), .ref (h0 + 110), .ref (h0 + 111), .ref (h0 + 112)] 5 (qN cZ 8 (fun i => h0 + (113 + i * 15)) 6))) H := hP
  refine W.eq (g2 := F0 m 166 ls [.ref (h0 + 203), .int (iZ 6), .ref (h0 + 5)]) rfl ?_
  refine cz_ast (a := h0) (n := 218) (ci := 9) (sp := 5) (N := 8) (j := 6) (k := 203) (ci2 := 1) (Rf := (fun k => sE cI cZ cII cIII h0 k (fun x => iZ (sI k x)))) (fs := [.ref (h0 + 1), .ref (h0 + 5), .int (iZ 0), .ref (h0 + 6), .ref (h0 + 12), .int (iZ 0), .int (iZ 0), .ref (h0 + 18), .ref (h0 + 38), .ref (h0 + 41), .ref (h0 + 45), .ref (h0 + 48), .ref (h0 + 110), .ref (h0 + 111), .ref (h0 + 112)]) (cA := cZ) (g := (fun i => h0 + (113 + i * 15))) (r := (RX1, TX1, 8)) hx hb hK hP (fl_D (hAD 218 (by decide))) hS 1 rfl (by decide) (sE_leafO (i := 6) (by decide) rfl _) rfl (by decide +kernel) (by unfold vp_in; decide +kernel) rfl dX9_init_166 (fun H locs hP hS => ?_)
  have hP : va_P (dC, dI) vwCl (fl h0 218 (cwb (fun k => sE cI cZ cII cIII h0 k (fun x => iZ (sI k x))) 9 [.ref (h0 + 1), .ref (h0 + 5), .int (iZ 0), .ref (h0 + 6), .ref (h0 + 12), .int (iZ 0), .int (iZ 0), .ref (h0 + 18), .ref (h0 + 38), .ref (h0 + 41), .ref (h0 + 45), .ref (h0 + 48), .ref (h0 + 110), .ref (h0 + 111), .ref (h0 + 112)] 5 (qN cZ 8 (fun i => h0 + (113 + i * 15)) 7))) H := hP
  refine lv_iinc (v := iZ 7) (lv' := [(1, .int (iZ 7)), (0, .ref h0)]) hx hb dX9_init_167 hl (k := 0) rfl (by decide +kernel) (by decide) rfl (fun ls hl => ?_)
  refine lv_goto (tgt := 148) hx hb dX9_init_170 (by decide) ?_
  refine lv_iload_n hx hb dX9_init_148 rfl (lv_at hl 0 rfl) ?_
  refine lv_bipush (v := iZ 8) hx hb dX9_init_149 rfl ?_
  refine lv_icmp_ge (tgt := 173) hx hb dX9_init_151 (by decide) (fun c9 => absurd c9 (by decide +kernel)) (fun _ => ?_)
  refine lv_aload_n hx hb dX9_init_154 rfl (lv_at hl 1 rfl) ?_
  refine va_get (D := (dC, dI)) (ci := 9) (v := .ref (h0 + 5)) (C := RX9) (T := TX9) (N := 15) hx hb hts inG9 hown hK hP 0 (cwb_get (by decide)) rfl 1 (by decide) (hts _ k333) (fun _ h9 => h9) rfl dX9_init_155 ?_
  refine lv_iload_n hx hb dX9_init_158 rfl (lv_at hl 0 rfl) ?_
  refine cz_obj (h0 := h0) (n := 218) (ci := 1) (fs := [.null, .null, .int 0, .null, .null, .int 0, .null, .null]) (C := RX1) (T := TX1) (N := 8) hx hb hts inG1 tyX1 tyX1_ok hown (hts _ k66) (hts _ k258) (hts _ k10) hK hP (by decide) (by show_term (have zq369 : True := trivial; omega)) hS rfl (fun j hj => by rcases (show j = 0 ∨ j = 1 ∨ j = 2 ∨ j = 3 ∨ j = 4 ∨ j = 5 ∨ j = 6 ∨ j = 7 by show_term (have zq370 : True := trivial; omega)) with rfl | rfl | rfl | rfl | rfl | rfl | rfl | rfl <;> rfl) (Nat.le_of_ble_eq_true rfl) (Nat.le_of_ble_eq_true rfl) dX9_init_159 (fun H hz9 hP hPo hS => ?_)
  refine W.widen (k := 218) (n := 285001) (by show_term (have zq371 : True := trivial; omega)) (by show_term (have zq372 : True := trivial; omega)) ?_
  refine W.eq (g2 := F0 m 162 ls [.ref (h0 + 218), .int (iZ 7), .ref (h0 + 5)]) rfl ?_
  refine lv_dup hx hb dX9_init_162 rfl ?_
  have hPc : va_P (dC, dI) vwCl (fl (h0 + 218) 1 (cwb (fun k => sE cI cZ cII cIII h0 (218 + k) (fun x => iZ (sI (218 + k) x))) 1 [.null, .null, .int 0, .null, .null, .int 0, .null, .null] 0 ((fun k => sE cI cZ cII cIII h0 (218 + k) (fun x => iZ (sI (218 + k) x))) 0))) H := fl_P (fun k hk => by obtain rfl : k = 0 := (by show_term (have zq373 : True := trivial; omega)); exact fl_at hPo hk)
  refine va_callv (va_runIN (As := []) (rest := [.ref (h0 + 218), .int (iZ 7), .ref (h0 + 5)]) ⟨hx, hb, hml, hown, hts⟩ (k_Leaf l dC dI h0 cI cZ cII cIII 218 7 (by decide) rfl) ⟨va_cnB (host := "PageSkeleton") 0 hts (gI_G k261) rfl rfl rfl (xN_nest hEx 5 rfl) (hts _ k10) (by decide +kernel) ⟨Nat.le_of_ble_eq_true rfl, Nat.le_of_ble_eq_true rfl⟩, rfl, hts _ k260⟩ ⟨fun a U g mk q => by obtain ⟨q0, q1, qP, qK, qM⟩ := q; exact ⟨q0, q1, qP, va_K.moved (u := U) (U := U.calling g mk a) (Vm.Alike.refl U.vm) qK, qM⟩, fun U hU hW => ⟨rfl, by rw [hU]; exact hz9, by rw [hU]; exact hPc, va_K.moved hW.alike hK, xN_warm hW hEx⟩⟩ rfl rfl hl.1 rfl (lv_room (Nat.le_of_ble_eq_true rfl)) dX9_init_163 ⟨Nat.le_of_ble_eq_true rfl, Nat.le_of_ble_eq_true rfl⟩) hS (fun q9 _ h9 => fA_sub (by show_term (have zq374 : True := trivial; omega)) q9 h9) (fA_sub (by show_term (have zq375 : True := trivial; omega))) (fun u9 t9 H1 locs ht9 hvm9 hw9 hB9 hz9 hk9 hS => ?_)
  obtain ⟨hP9, -⟩ := hB9
  rw [ht9] at hP9
  have hP := fl_called hP hk9 (by show_term (have zq376 : True := trivial; omega)) hP9 (fun k hk => (cwb_n (by show_term (have zq377 : True := trivial; omega)) (by show_term (have zq378 : True := trivial; omega))).trans (congrArg (fun z => sE cI cZ cII cIII h0 z (fun x => iZ (sI z x))) (by show_term (have zq379 : True := trivial; omega))))
  clear hPo hPc hk9 hP9 hz9
  generalize H1 = H at hP hS ⊢
  refine W.widen (k := 232) (n := 288116) (by show_term (have zq380 : True := trivial; omega)) (by show_term (have zq381 : True := trivial; omega)) ?_
  have hP : va_P (dC, dI) vwCl (fl h0 233 (cwb (fun k => sE cI cZ cII cIII h0 k (fun x => iZ (sI k x))) 9 [.ref (h0 + 1), .ref (h0 + 5), .int (iZ 0), .ref (h0 + 6), .ref (h0 + 12), .int (iZ 0), .int (iZ 0), .ref (h0 + 18), .ref (h0 + 38), .ref (h0 + 41), .ref (h0 + 45), .ref (h0 + 48), .ref (h0 + 110), .ref (h0 + 111), .ref (h0 + 112)] 5 (qN cZ 8 (fun i => h0 + (113 + i * 15)) 7))) H := hP
  refine W.eq (g2 := F0 m 166 ls [.ref (h0 + 218), .int (iZ 7), .ref (h0 + 5)]) rfl ?_
  refine cz_ast (a := h0) (n := 233) (ci := 9) (sp := 5) (N := 8) (j := 7) (k := 218) (ci2 := 1) (Rf := (fun k => sE cI cZ cII cIII h0 k (fun x => iZ (sI k x)))) (fs := [.ref (h0 + 1), .ref (h0 + 5), .int (iZ 0), .ref (h0 + 6), .ref (h0 + 12), .int (iZ 0), .int (iZ 0), .ref (h0 + 18), .ref (h0 + 38), .ref (h0 + 41), .ref (h0 + 45), .ref (h0 + 48), .ref (h0 + 110), .ref (h0 + 111), .ref (h0 + 112)]) (cA := cZ) (g := (fun i => h0 + (113 + i * 15))) (r := (RX1, TX1, 8)) hx hb hK hP (fl_D (hAD 233 (by decide))) hS 1 rfl (by decide) (sE_leafO (i := 7) (by decide) rfl _) rfl (by decide +kernel) (by unfold vp_in; decide +kernel) rfl dX9_init_166 (fun H locs hP hS => ?_)
  have hP : va_P (dC, dI) vwCl (fl h0 233 (cwb (fun k => sE cI cZ cII cIII h0 k (fun x => iZ (sI k x))) 9 [.ref (h0 + 1), .ref (h0 + 5), .int (iZ 0), .ref (h0 + 6), .ref (h0 + 12), .int (iZ 0), .int (iZ 0), .ref (h0 + 18), .ref (h0 + 38), .ref (h0 + 41), .ref (h0 + 45), .ref (h0 + 48), .ref (h0 + 110), .ref (h0 + 111), .ref (h0 + 112)] 5 (qN cZ 8 (fun i => h0 + (113 + i * 15)) 8))) H := hP
  refine lv_iinc (v := iZ 8) (lv' := [(1, .int (iZ 8)), (0, .ref h0)]) hx hb dX9_init_167 hl (k := 0) rfl (by decide +kernel) (by decide) rfl (fun ls hl => ?_)
  refine lv_goto (tgt := 148) hx hb dX9_init_170 (by decide) ?_
  refine lv_iload_n hx hb dX9_init_148 rfl (lv_at hl 0 rfl) ?_
  refine lv_bipush (v := iZ 8) hx hb dX9_init_149 rfl ?_
  refine lv_icmp_ge (tgt := 173) hx hb dX9_init_151 (by decide) (fun _ => ?_) (fun c9 => absurd (by decide +kernel) c9)
  refine lv_aload_n hx hb dX9_init_173 rfl (lv_at hl 1 rfl) ?_
  refine va_get (D := (dC, dI)) (ci := 9) (v := .ref (h0 + 110)) (C := RX9) (T := TX9) (N := 15) hx hb hts inG9 hown hK hP 0 (cwb_get (by decide)) rfl 12 (by decide) (hts _ k344) (fun _ h9 => h9) rfl dX9_init_174 ?_
  refine lv_sipush (v := iZ 516) hx hb dX9_init_177 rfl ?_
  have hP : va_P (dC, dI) vwCl (fw (sE cI cZ cII cIII h0) h0 233 sI) H := fl_eq hP (fun k hk => cwb_e2 (Rf := (fun k => sE cI cZ cII cIII h0 k (fun x => iZ (sI k x)))) (by decide) (rfl) (rfl) k)
  have hle9 : s.heap.size ≤ H.size := hS.1
  refine va_callv (va_runS (As := [.ref (h0 + 110), .int (iZ 516)]) (rest := []) ⟨hx, hb, hml, hown, hts⟩ (s_fill l dC dI cI cZ cII cIII h0 H.size sI 110 60 516 (by decide) sE_110) (va_cwS 2 hts (gT_G k329 k330 k12 k331) rfl rfl rfl (by decide +kernel) ⟨Nat.le_of_ble_eq_true rfl, Nat.le_of_ble_eq_true rfl⟩) ⟨fun a U g mk q => by obtain ⟨q0, q1, qP, qK, qM⟩ := q; exact ⟨q0, q1, qP, va_K.moved (u := U) (U := U.calling g mk a) (Vm.Alike.refl U.vm) qK, qM⟩, fun U hU hW => ⟨rfl, by rw [hU], by rw [hU]; exact hP, va_K.moved hW.alike hK, xM_warm hW hM⟩⟩ rfl rfl hl.1 rfl (lv_room (Nat.le_of_ble_eq_true rfl)) dX9_init_180 ⟨Nat.le_of_ble_eq_true rfl, Nat.le_of_ble_eq_true rfl⟩) hS (fun q9 _ h9 => h9.elim Or.inl (fun h => Or.inr (by show_term (have zq382 : True := trivial; omega)))) (fun q9 h9 => h9.elim Or.inl (fun h => Or.inr (by show_term (have zq383 : True := trivial; omega)))) (fun u t9 H1 locs ht9 hvm9 hw9 hB9 hz9 hk9 hS => ?_)
  obtain ⟨hP, -⟩ := hB9
  rw [ht9] at hP
  generalize H1 = H at hP hS ⊢
  exact W.vret hx hb hr (fun t ht hW => ⟨⟨u, rfl, hw9, by rw [ht]; exact hP, va_K.moved hW.alike hK⟩, hS.F ht⟩) hS.2.2 dX9_init_183

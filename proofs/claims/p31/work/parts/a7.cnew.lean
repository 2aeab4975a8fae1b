
/-! the class's constructors over flat worlds -/
def sI : va_M := fun k j => if (k = 1 ∧ j = 6) ∨ ((113 ≤ k ∧ (k - 113) % 15 = 10) ∧ j = 0) then -1 else if k = 41 ∧ j = 3 then 1 else 0
theorem sI_z {k : Nat} (h : k ≠ 1 ∧ k ≠ 41 ∧ ¬ (113 ≤ k ∧ (k - 113) % 15 = 10)) : (fun x => iZ (sI k x)) = fun _ => (0 : Int32) := funext fun x => by
  unfold sI
  rw [if_neg (by omega), if_neg (by omega)]
  rfl
theorem row_z {q rm k : Nat} (h : rowB q rm) (hk : k < 6) : q + k ≠ 1 ∧ q + k ≠ 41 ∧ ¬ (113 ≤ q + k ∧ (q + k - 113) % 15 = 10) := by
  rcases h with ⟨h1, h2⟩ | ⟨h1, h2⟩ | ⟨i, h1, h2, h3⟩ | ⟨i, h1, h2, h3⟩ <;> (first | ((try clear h3); omega) | omega)
def cwb (Rf : Nat → va_E) (ci : Nat) (fs : List Value) (sp : Nat) (e : va_E) : Nat → va_E := fun k => if k = 0 then .inr (ci, fs) else if k = sp then e else Rf k
theorem cwb_n {Rf : Nat → va_E} {ci : Nat} {fs : List Value} {sp k : Nat} {e : va_E} (h0 : k ≠ 0) (h : k ≠ sp) : cwb Rf ci fs sp e k = Rf k := by
  unfold cwb
  rw [if_neg h0, if_neg h]
theorem cwb_e {Rf : Nat → va_E} {ci : Nat} {fs : List Value} (h0 : Rf 0 = .inr (ci, fs)) (k : Nat) : Rf k = cwb Rf ci fs 0 (Rf 0) k := by
  by_cases h : k = 0
  · subst h; exact h0
  · exact (cwb_n h h).symm
theorem cwb_get {a n ci sp : Nat} {Rf : Nat → va_E} {fs : List Value} {e : va_E} (hn : 0 < n) : (fl a n (cwb Rf ci fs sp e))[0]? = some (a, .inr (ci, fs)) := fl_get hn
theorem cwb_setP {D : va_G} {cl : List vw_C} {a n ci sp : Nat} {Rf : Nat → va_E} {fs fs' : List Value} {e : va_E} {H : Heap} (h : va_P D cl ((fl a n (cwb Rf ci fs sp e)).set 0 (a, .inr (ci, fs'))) H) : va_P D cl (fl a n (cwb Rf ci fs' sp e)) H := by
  have e1 : (fl a n (cwb Rf ci fs sp e)).set 0 (a + 0, .inr (ci, fs')) = fl a n (cwb Rf ci fs' sp e) := by
    rw [fl_set]
    congr 1
    funext j
    by_cases h : j = 0
    · subst h; rfl
    · rw [if_neg h]; unfold cwb; rw [if_neg h, if_neg h]
  rw [Nat.add_zero] at e1
  rw [e1] at h
  exact h
theorem fl_eq {D : va_G} {cl : List vw_C} {a n : Nat} {w w2 : Nat → va_E} {H : Heap} (h : va_P D cl (fl a n w) H) (he : ∀ k, k < n → w2 k = w k) : va_P D cl (fl a n w2) H := fl_P fun k hk => by rw [he k hk]; exact fl_at h hk
theorem fl_join {D : va_G} {cl : List vw_C} {a n K : Nat} {w w2 W9 : Nat → va_E} {H : Heap} (h1 : va_P D cl (fl a n w) H) (h2 : va_P D cl (fl (a + n) K w2) H) (e1 : ∀ k, k < n → W9 k = w k) (e2 : ∀ k, k < K → W9 (n + k) = w2 k) : va_P D cl (fl a (n + K) W9) H := fl_P fun k hk => by
  by_cases h : k < n
  · rw [e1 k h]; exact fl_at h1 h
  · obtain ⟨i, rfl⟩ : ∃ i, k = n + i := ⟨k - n, by (first | ((try clear e2); (try clear e1); (try clear h2); omega) | omega)⟩
    rw [e2 i (by (first | ((try clear e2); (try clear e1); (try clear h2); omega) | omega)), ← Nat.add_assoc]
    exact fl_at h2 (by (first | ((try clear e2); (try clear e1); (try clear h2); omega) | omega))
section CWO
variable {p : Program} {l : Launch} {e : Env} {R : Room} {s : State} {m : MethodId} {args : Array Value} {below : List Frame} {meth : Method} {c : Code} {H : Heap} {locs : List Loc} {cells slots : Nat} {Q : State → Prop}
variable {cc : ByteArray} {pc : Nat} {ls : Array Slot} {rest : List Value} {D : va_G} {cl : List vw_C} {A : Nat → Prop} {tys : List (ClassId × FieldType)} {H0 : Heap} {h0 n : Nat} {w : Nat → va_E}
/-- a new object, right behind the cells that are there -/
theorem cz_obj (hexec : p.tables.exec = Jvm.exec) (hb : c.code = cc) {own C : String} {T : u_T} {N ci index : Nat} {Ts : List Cond} (hts : ∀ w ∈ Ts, w.before args s = true) (hin : ∀ w ∈ u_ws C T N, w ∈ Ts) (ty : Nat → FieldType) (hty : ∀ k, k < N → parseFieldDescriptor (T k).2.2.1 = some (ty k)) (hown : s.vm.findClass own = some m.cls) (hcl : (Cond.classLink own index C).before args s = true) (hinst : (Cond.instantiable C N).before args s = true) (hini : (Cond.initialized C).before args s = true)
    (hK : va_K D cl tys s) (hP : va_P D cl (fl h0 n w) H) (hn0 : 0 < n) (hsz : s.heap.size + cells = h0 + n) (hS : va_S A H0 H locs) (hc : cl[ci]? = some (C, T, N)) {fs : List Value} (hfs : ∀ j, j < N → defaultValue (ty j) = vp_V fs j) (hcells : cells + 1 ≤ R.cells) (hslots : slots + N ≤ R.slots) (hdg : decode cc pc = .ok (.new index, 3))
    (kk : ∀ H1 : Heap, H1.size = h0 + n + 1 → va_P D cl (fl h0 n w) H1 → va_P D cl (fl (h0 + n) 1 (fun _ => .inr (ci, fs))) H1 → va_S A H0 H1 locs → W p l e R s m args below meth c H1 locs (cells + 1) (slots + N) Q (F0 m (pc + 3) ls (.ref (h0 + n) :: rest))) : W p l e R s m args below meth c H locs cells slots Q (F0 m pc ls rest) := by
  refine cz_size (fun hle => ?_)
  have hge := (fl_at hP (k := n - 1) (by (first | ((try clear hge); (try clear hle); (try clear kk); (try clear hdg); (try clear hslots); (try clear hcells); (try clear hfs); (try clear hc); (try clear hini); (try clear hinst); (try clear hcl); (try clear hty); (try clear hexec); omega) | omega))).lt
  simp only at hge
  have hH : H.size = h0 + n := by (first | ((try clear hH); (try clear kk); (try clear hdg); (try clear hslots); (try clear hcells); (try clear hfs); (try clear hc); (try clear hini); (try clear hinst); (try clear hcl); (try clear hty); (try clear hexec); omega) | omega)
  have hKn := hK.1 ci _ hc
  refine W.newcK hexec hb hown hcl hinst hini rfl hdg hcells hslots hKn.2.1 rfl fun H1 kC hkC e1 z1 o1 => ?_
  have k9 := kk H1 (by (first | ((try clear k9); (try clear o1); (try clear e1); (try clear hkC); (try clear kC); (try clear hKn); (try clear hge); (try clear hle); (try clear kk); (try clear hdg); (try clear hslots); (try clear hcells); (try clear hfs); (try clear hc); (try clear hn0); (try clear hini); (try clear hinst); (try clear hcl); (try clear hty); (try clear hexec); omega) | omega)) (hP.kept (fun k x hx => o1 x.1 ((hP k x hx).lt))) (fl_P fun k hk => ?_) ⟨Nat.le_trans hS.1 (by (first | ((try clear hk); (try clear k); (try clear k9); (try clear o1); (try clear e1); (try clear hkC); (try clear kC); (try clear hKn); (try clear hH); (try clear hge); (try clear hle); (try clear kk); (try clear hdg); (try clear hslots); (try clear hcells); (try clear hfs); (try clear hc); (try clear hsz); (try clear hn0); (try clear hini); (try clear hinst); (try clear hcl); (try clear hty); (try clear hexec); omega) | omega)), fun x h1 h2 => (o1 x (Nat.lt_of_lt_of_le h1 hS.1)).trans (hS.2.1 x h1 h2), hS.2.2⟩
  · rw [← hH] at k9
    exact k9
  · obtain rfl : k = 0 := by (first | ((try clear k9); (try clear o1); (try clear z1); (try clear e1); (try clear hkC); (try clear kC); (try clear hKn); (try clear hH); (try clear hge); (try clear hle); (try clear kk); (try clear hdg); (try clear hslots); (try clear hcells); (try clear hfs); (try clear hc); (try clear hsz); (try clear hn0); (try clear hini); (try clear hinst); (try clear hcl); (try clear hty); (try clear hexec); omega) | omega)
    rw [hH] at e1
    exact ⟨_, hc, (u_born ty hts hin hKn hkC e1 hty).to hfs⟩
end CWO
set_option maxHeartbeats 4000000 in
set_option maxRecDepth 100000 in
theorem k_Texts (l : Launch) (dC : Nat → ClassId) (dI : Nat → Nat → Nat) (h0 : Nat) (cI cZ cII cIII : ClassId)  : Met l yX5_init (Cond.code yX5_init cX5_init 1 none :: wsG) ({ frames := 1, cells := 3, slots := 660, locals := 14 } : Room) (va_Pc [.ref (h0 + 1)] (fun U => U.heap.size = (h0 + 1) + 1 ∧ va_P (dC, dI) vwCl (fl (h0 + 1) 1 (cwb (fun k => sE cI cZ cII cIII h0 (1 + k) (fun x => iZ (sI (1 + k) x))) 5 [.null, .int 0, .null, .int 0, .null, .int 0, .int 0, .int 0] 0 ((fun k => sE cI cZ cII cIII h0 (1 + k) (fun x => iZ (sI (1 + k) x))) 0))) U.heap ∧ va_K (dC, dI) vwCl (sT cI cZ cII cIII) U ∧ mu_T U)) (va_Qv (fun (_ : Unit) => True) (fun (_ : Unit) (t : State) => va_P (dC, dI) vwCl (fl (h0 + 1) 4 (fun k => sE cI cZ cII cIII h0 (1 + k) (fun x => iZ (sI (1 + k) x)))) t.heap ∧ va_K (dC, dI) vwCl (sT cI cZ cII cIII) t) (fA (h0 + 1) 4 ((h0 + 1) + 1))) 3 660 (fA (h0 + 1) 4 ((h0 + 1) + 1)) := by
  refine Met.ofW (cc := cX5_init) (maxL := 1) (ret := none) (by decide) rfl ?_
  intro p e s m args below meth c s₁ B hml hv
  obtain ⟨rfl, hsz, hP, hK, hT0⟩ := hv
  have hx := B.exec
  have hb := B.bytes
  have hr := B.returns
  have hts : ∀ w ∈ wsG, w.before _ s = true := hG_of (atoms_spec (ws := (Cond.code yX5_init cX5_init 1 none :: wsG)) B.pre)
  have hown : s.vm.findClass RX5 = some m.cls := findClass_of_methodNamed B.named
  have hlocks := B.notSynchronized
  have hin : meth.name = "<init>" := (name_of_methodNamed B.named B.method).1
  have f1 := va_RA_int (hK.2 0 _ rfl).2
  have f2 := va_RA_int2 (hK.2 2 _ rfl).2
  have hS : va_S (fA (h0 + 1) 4 ((h0 + 1) + 1)) s.heap s.heap [] := va_S.rf
  have hAD : ∀ n, n ≤ 4 → ∀ k, k < n → (fA (h0 + 1) 4 ((h0 + 1) + 1)) ((h0 + 1) + k) := fun n hn k hk => fA_in k (Nat.lt_of_lt_of_le hk hn)
  have hl := lv_entry ([.ref (h0 + 1)]) (n := 1) (Nat.le_of_ble_eq_true rfl)
  rw [lg_entry_eq]
  generalize (lg_sl ([.ref (h0 + 1)]) ++ List.replicate (1 - (lg_sl ([.ref (h0 + 1)])).length) Slot.unset).toArray = ls at hl ⊢
  have hl : lv_has ls 1 [(0, .ref (h0 + 1))] := hl
  refine lv_aload_n hx hb dX5_init_0 rfl (lv_at hl 0 rfl) ?_
  refine W.objInit hx hb hown (hts _ k34) (hts _ k27) (hts _ k28) rfl (by rw [hml]; exact hl.1) rfl dX5_init_1 (Nat.le_of_ble_eq_true rfl) (Nat.le_of_ble_eq_true rfl) ?_
  refine W.eq (g2 := F0 m 4 ls []) rfl ?_
  refine lv_aload_n hx hb dX5_init_4 rfl (lv_at hl 0 rfl) ?_
  refine lv_sipush (v := iZ 400) hx hb dX5_init_5 rfl ?_
  refine cz_new (atype := .int) (n := 1) (cA := cI) (N' := 400) (a0 := (400, .inl (fun _ => 0))) hx hb (hts _ k65) f1 hP (by decide) (by (first | ((try clear hAD); (try clear f2); (try clear f1); (try clear hin); (try clear hT0); (try clear s₁); omega) | omega)) hS ((cwb_n (by decide) (by decide)).trans ((congrArg (sE cI cZ cII cIII h0 2) (sI_z (by decide))).trans (sE_2 _))) (fun _ => rfl) (by decide +kernel) (by decide +kernel) (Nat.le_of_ble_eq_true rfl) (Nat.le_of_ble_eq_true rfl) (Nat.le_of_ble_eq_true rfl) dX5_init_8 (fun H hP hS => ?_)
  refine W.widen (k := 1) (n := 400) (by (first | ((try clear hAD); (try clear f2); (try clear f1); (try clear hin); (try clear hT0); (try clear hsz); (try clear s₁); omega) | omega)) (by (first | ((try clear hAD); (try clear f2); (try clear f1); (try clear hin); (try clear hT0); (try clear hsz); (try clear s₁); omega) | omega)) ?_
  have hP : va_P (dC, dI) vwCl (fl (h0 + 1) 2 (cwb (fun k => sE cI cZ cII cIII h0 (1 + k) (fun x => iZ (sI (1 + k) x))) 5 [.null, .int 0, .null, .int 0, .null, .int 0, .int 0, .int 0] 0 ((fun k => sE cI cZ cII cIII h0 (1 + k) (fun x => iZ (sI (1 + k) x))) 0))) H := hP
  refine va_putF (D := (dC, dI)) (ci := 5) (v := .ref ((h0 + 1) + 1)) (ty := .array .int) (C := RX5) (T := TX5) (N := 8) hx hb hts inG5 tyX5 tyX5_ok nmX5 hown hK hP (fl_D (hAD 2 (by decide))) hS 0 (cwb_get (by decide)) rfl 0 (by decide) (hts _ k35) (fun _ h9 => h9) rfl hin rfl (by decide +kernel) rfl rfl (Nat.le_of_ble_eq_true rfl) dX5_init_10 (fun H locs hP _ hS => ?_)
  have hP : va_P (dC, dI) vwCl (fl (h0 + 1) 2 (cwb (fun k => sE cI cZ cII cIII h0 (1 + k) (fun x => iZ (sI (1 + k) x))) 5 [.ref ((h0 + 1) + 1), .int 0, .null, .int 0, .null, .int 0, .int 0, .int 0] 0 ((fun k => sE cI cZ cII cIII h0 (1 + k) (fun x => iZ (sI (1 + k) x))) 0))) H := cwb_setP hP
  refine lv_aload_n hx hb dX5_init_13 rfl (lv_at hl 0 rfl) ?_
  refine lv_iconst (v := iZ 0) hx hb dX5_init_14 rfl ?_
  refine va_put (D := (dC, dI)) (ci := 5) (v := .int (iZ 0)) (ty := .int) (C := RX5) (T := TX5) (N := 8) hx hb hts inG5 tyX5 tyX5_ok nmX5 hown hK hP (fl_D (hAD 2 (by decide))) hS 0 (cwb_get (by decide)) rfl 1 (by decide) (hts _ k36) (fun _ h9 => h9) rfl (by decide +kernel) rfl rfl (Nat.le_of_ble_eq_true rfl) dX5_init_15 (fun H locs hP _ hS => ?_)
  have hP : va_P (dC, dI) vwCl (fl (h0 + 1) 2 (cwb (fun k => sE cI cZ cII cIII h0 (1 + k) (fun x => iZ (sI (1 + k) x))) 5 [.ref ((h0 + 1) + 1), .int (iZ 0), .null, .int 0, .null, .int 0, .int 0, .int 0] 0 ((fun k => sE cI cZ cII cIII h0 (1 + k) (fun x => iZ (sI (1 + k) x))) 0))) H := cwb_setP hP
  refine lv_aload_n hx hb dX5_init_18 rfl (lv_at hl 0 rfl) ?_
  refine lv_sipush (v := iZ 200) hx hb dX5_init_19 rfl ?_
  refine cz_new (atype := .int) (n := 2) (cA := cI) (N' := 200) (a0 := (200, .inl (fun _ => 0))) hx hb (hts _ k65) f1 hP (by decide) (by (first | ((try clear hAD); (try clear f2); (try clear f1); (try clear hin); (try clear hT0); (try clear s₁); omega) | omega)) hS ((cwb_n (by decide) (by decide)).trans ((congrArg (sE cI cZ cII cIII h0 3) (sI_z (by decide))).trans (sE_3 _))) (fun _ => rfl) (by decide +kernel) (by decide +kernel) (Nat.le_of_ble_eq_true rfl) (Nat.le_of_ble_eq_true rfl) (Nat.le_of_ble_eq_true rfl) dX5_init_22 (fun H hP hS => ?_)
  refine W.widen (k := 2) (n := 600) (by (first | ((try clear hAD); (try clear f2); (try clear f1); (try clear hin); (try clear hT0); (try clear hsz); (try clear s₁); omega) | omega)) (by (first | ((try clear hAD); (try clear f2); (try clear f1); (try clear hin); (try clear hT0); (try clear hsz); (try clear s₁); omega) | omega)) ?_
  have hP : va_P (dC, dI) vwCl (fl (h0 + 1) 3 (cwb (fun k => sE cI cZ cII cIII h0 (1 + k) (fun x => iZ (sI (1 + k) x))) 5 [.ref ((h0 + 1) + 1), .int (iZ 0), .null, .int 0, .null, .int 0, .int 0, .int 0] 0 ((fun k => sE cI cZ cII cIII h0 (1 + k) (fun x => iZ (sI (1 + k) x))) 0))) H := hP
  refine va_putF (D := (dC, dI)) (ci := 5) (v := .ref ((h0 + 1) + 2)) (ty := .array .int) (C := RX5) (T := TX5) (N := 8) hx hb hts inG5 tyX5 tyX5_ok nmX5 hown hK hP (fl_D (hAD 3 (by decide))) hS 0 (cwb_get (by decide)) rfl 2 (by decide) (hts _ k38) (fun _ h9 => h9) rfl hin rfl (by decide +kernel) rfl rfl (Nat.le_of_ble_eq_true rfl) dX5_init_24 (fun H locs hP _ hS => ?_)
  have hP : va_P (dC, dI) vwCl (fl (h0 + 1) 3 (cwb (fun k => sE cI cZ cII cIII h0 (1 + k) (fun x => iZ (sI (1 + k) x))) 5 [.ref ((h0 + 1) + 1), .int (iZ 0), .ref ((h0 + 1) + 2), .int 0, .null, .int 0, .int 0, .int 0] 0 ((fun k => sE cI cZ cII cIII h0 (1 + k) (fun x => iZ (sI (1 + k) x))) 0))) H := cwb_setP hP
  refine lv_aload_n hx hb dX5_init_27 rfl (lv_at hl 0 rfl) ?_
  refine lv_iconst (v := iZ 0) hx hb dX5_init_28 rfl ?_
  refine va_put (D := (dC, dI)) (ci := 5) (v := .int (iZ 0)) (ty := .int) (C := RX5) (T := TX5) (N := 8) hx hb hts inG5 tyX5 tyX5_ok nmX5 hown hK hP (fl_D (hAD 3 (by decide))) hS 0 (cwb_get (by decide)) rfl 3 (by decide) (hts _ k39) (fun _ h9 => h9) rfl (by decide +kernel) rfl rfl (Nat.le_of_ble_eq_true rfl) dX5_init_29 (fun H locs hP _ hS => ?_)
  have hP : va_P (dC, dI) vwCl (fl (h0 + 1) 3 (cwb (fun k => sE cI cZ cII cIII h0 (1 + k) (fun x => iZ (sI (1 + k) x))) 5 [.ref ((h0 + 1) + 1), .int (iZ 0), .ref ((h0 + 1) + 2), .int (iZ 0), .null, .int 0, .int 0, .int 0] 0 ((fun k => sE cI cZ cII cIII h0 (1 + k) (fun x => iZ (sI (1 + k) x))) 0))) H := cwb_setP hP
  refine lv_aload_n hx hb dX5_init_32 rfl (lv_at hl 0 rfl) ?_
  refine lv_bipush (v := iZ 60) hx hb dX5_init_33 rfl ?_
  refine cz_new (atype := .int) (n := 3) (cA := cI) (N' := 60) (a0 := (60, .inl (fun _ => 0))) hx hb (hts _ k65) f1 hP (by decide) (by (first | ((try clear hAD); (try clear f2); (try clear f1); (try clear hin); (try clear hT0); (try clear s₁); omega) | omega)) hS ((cwb_n (by decide) (by decide)).trans ((congrArg (sE cI cZ cII cIII h0 4) (sI_z (by decide))).trans (sE_4 _))) (fun _ => rfl) (by decide +kernel) (by decide +kernel) (Nat.le_of_ble_eq_true rfl) (Nat.le_of_ble_eq_true rfl) (Nat.le_of_ble_eq_true rfl) dX5_init_35 (fun H hP hS => ?_)
  refine W.widen (k := 3) (n := 660) (by (first | ((try clear hAD); (try clear f2); (try clear f1); (try clear hin); (try clear hT0); (try clear hsz); (try clear s₁); omega) | omega)) (by (first | ((try clear hAD); (try clear f2); (try clear f1); (try clear hin); (try clear hT0); (try clear hsz); (try clear s₁); omega) | omega)) ?_
  have hP : va_P (dC, dI) vwCl (fl (h0 + 1) 4 (cwb (fun k => sE cI cZ cII cIII h0 (1 + k) (fun x => iZ (sI (1 + k) x))) 5 [.ref ((h0 + 1) + 1), .int (iZ 0), .ref ((h0 + 1) + 2), .int (iZ 0), .null, .int 0, .int 0, .int 0] 0 ((fun k => sE cI cZ cII cIII h0 (1 + k) (fun x => iZ (sI (1 + k) x))) 0))) H := hP
  refine va_putF (D := (dC, dI)) (ci := 5) (v := .ref ((h0 + 1) + 3)) (ty := .array .int) (C := RX5) (T := TX5) (N := 8) hx hb hts inG5 tyX5 tyX5_ok nmX5 hown hK hP (fl_D (hAD 4 (by decide))) hS 0 (cwb_get (by decide)) rfl 4 (by decide) (hts _ k41) (fun _ h9 => h9) rfl hin rfl (by decide +kernel) rfl rfl (Nat.le_of_ble_eq_true rfl) dX5_init_37 (fun H locs hP _ hS => ?_)
  have hP : va_P (dC, dI) vwCl (fl (h0 + 1) 4 (cwb (fun k => sE cI cZ cII cIII h0 (1 + k) (fun x => iZ (sI (1 + k) x))) 5 [.ref ((h0 + 1) + 1), .int (iZ 0), .ref ((h0 + 1) + 2), .int (iZ 0), .ref ((h0 + 1) + 3), .int 0, .int 0, .int 0] 0 ((fun k => sE cI cZ cII cIII h0 (1 + k) (fun x => iZ (sI (1 + k) x))) 0))) H := cwb_setP hP
  refine lv_aload_n hx hb dX5_init_40 rfl (lv_at hl 0 rfl) ?_
  refine lv_iconst (v := iZ 0) hx hb dX5_init_41 rfl ?_
  refine va_put (D := (dC, dI)) (ci := 5) (v := .int (iZ 0)) (ty := .int) (C := RX5) (T := TX5) (N := 8) hx hb hts inG5 tyX5 tyX5_ok nmX5 hown hK hP (fl_D (hAD 4 (by decide))) hS 0 (cwb_get (by decide)) rfl 5 (by decide) (hts _ k43) (fun _ h9 => h9) rfl (by decide +kernel) rfl rfl (Nat.le_of_ble_eq_true rfl) dX5_init_42 (fun H locs hP _ hS => ?_)
  have hP : va_P (dC, dI) vwCl (fl (h0 + 1) 4 (cwb (fun k => sE cI cZ cII cIII h0 (1 + k) (fun x => iZ (sI (1 + k) x))) 5 [.ref ((h0 + 1) + 1), .int (iZ 0), .ref ((h0 + 1) + 2), .int (iZ 0), .ref ((h0 + 1) + 3), .int (iZ 0), .int 0, .int 0] 0 ((fun k => sE cI cZ cII cIII h0 (1 + k) (fun x => iZ (sI (1 + k) x))) 0))) H := cwb_setP hP
  refine lv_aload_n hx hb dX5_init_45 rfl (lv_at hl 0 rfl) ?_
  refine lv_iconst (v := iZ (-1)) hx hb dX5_init_46 rfl ?_
  refine va_put (D := (dC, dI)) (ci := 5) (v := .int (iZ (-1))) (ty := .int) (C := RX5) (T := TX5) (N := 8) hx hb hts inG5 tyX5 tyX5_ok nmX5 hown hK hP (fl_D (hAD 4 (by decide))) hS 0 (cwb_get (by decide)) rfl 6 (by decide) (hts _ k45) (fun _ h9 => h9) rfl (by decide +kernel) rfl rfl (Nat.le_of_ble_eq_true rfl) dX5_init_47 (fun H locs hP _ hS => ?_)
  have hP : va_P (dC, dI) vwCl (fl (h0 + 1) 4 (cwb (fun k => sE cI cZ cII cIII h0 (1 + k) (fun x => iZ (sI (1 + k) x))) 5 [.ref ((h0 + 1) + 1), .int (iZ 0), .ref ((h0 + 1) + 2), .int (iZ 0), .ref ((h0 + 1) + 3), .int (iZ 0), .int (iZ (-1)), .int 0] 0 ((fun k => sE cI cZ cII cIII h0 (1 + k) (fun x => iZ (sI (1 + k) x))) 0))) H := cwb_setP hP
  refine lv_aload_n hx hb dX5_init_50 rfl (lv_at hl 0 rfl) ?_
  refine lv_iconst (v := iZ 0) hx hb dX5_init_51 rfl ?_
  refine va_put (D := (dC, dI)) (ci := 5) (v := .int (iZ 0)) (ty := .int) (C := RX5) (T := TX5) (N := 8) hx hb hts inG5 tyX5 tyX5_ok nmX5 hown hK hP (fl_D (hAD 4 (by decide))) hS 0 (cwb_get (by decide)) rfl 7 (by decide) (hts _ k47) (fun _ h9 => h9) rfl (by decide +kernel) rfl rfl (Nat.le_of_ble_eq_true rfl) dX5_init_52 (fun H locs hP _ hS => ?_)
  have hP : va_P (dC, dI) vwCl (fl (h0 + 1) 4 (cwb (fun k => sE cI cZ cII cIII h0 (1 + k) (fun x => iZ (sI (1 + k) x))) 5 [.ref ((h0 + 1) + 1), .int (iZ 0), .ref ((h0 + 1) + 2), .int (iZ 0), .ref ((h0 + 1) + 3), .int (iZ 0), .int (iZ (-1)), .int (iZ 0)] 0 ((fun k => sE cI cZ cII cIII h0 (1 + k) (fun x => iZ (sI (1 + k) x))) 0))) H := cwb_setP hP
  have hPf : va_P (dC, dI) vwCl (fl (h0 + 1) 4 (fun k => sE cI cZ cII cIII h0 (1 + k) (fun x => iZ (sI (1 + k) x)))) H := fl_eq hP (fun k hk => cwb_e (Rf := (fun k => sE cI cZ cII cIII h0 (1 + k) (fun x => iZ (sI (1 + k) x)))) (rfl) k)
  exact W.vret hx hb hr (fun t ht hW => ⟨⟨(), rfl, trivial, by rw [ht]; exact hPf, va_K.moved hW.alike hK⟩, hS.F ht⟩) hS.2.2 dX5_init_55
set_option maxHeartbeats 4000000 in
set_option maxRecDepth 100000 in
theorem k_Row1100 (l : Launch) (dC : Nat → ClassId) (dI : Nat → Nat → Nat) (h0 : Nat) (cI cZ cII cIII : ClassId) (q : Nat) (hq : rowB q 1100) : Met l yX4_init (Cond.code yX4_init cX4_init 3 none :: wsG) ({ frames := 1, cells := 5, slots := 5501, locals := 21 } : Room) (va_Pc [.ref (h0 + q), .int (iZ (1100))] (fun U => U.heap.size = (h0 + q) + 1 ∧ va_P (dC, dI) vwCl (fl (h0 + q) 1 (cwb (fun k => sE cI cZ cII cIII h0 (q + k) (fun x => iZ (sI (q + k) x))) 4 [.null, .null, .null, .null, .null, .int 0, .int 0, .int 0] 0 ((fun k => sE cI cZ cII cIII h0 (q + k) (fun x => iZ (sI (q + k) x))) 0))) U.heap ∧ va_K (dC, dI) vwCl (sT cI cZ cII cIII) U ∧ mu_T U)) (va_Qv (fun (_ : Unit) => True) (fun (_ : Unit) (t : State) => va_P (dC, dI) vwCl (fl (h0 + q) 6 (fun k => sE cI cZ cII cIII h0 (q + k) (fun x => iZ (sI (q + k) x)))) t.heap ∧ va_K (dC, dI) vwCl (sT cI cZ cII cIII) t) (fA (h0 + q) 6 ((h0 + q) + 1))) 5 5501 (fA (h0 + q) 6 ((h0 + q) + 1)) := by
  refine Met.ofW (cc := cX4_init) (maxL := 3) (ret := none) (by decide) rfl ?_
  intro p e s m args below meth c s₁ B hml hv
  obtain ⟨rfl, hsz, hP, hK, hT0⟩ := hv
  have hx := B.exec
  have hb := B.bytes
  have hr := B.returns
  have hts : ∀ w ∈ wsG, w.before _ s = true := hG_of (atoms_spec (ws := (Cond.code yX4_init cX4_init 3 none :: wsG)) B.pre)
  have hown : s.vm.findClass RX4 = some m.cls := findClass_of_methodNamed B.named
  have hlocks := B.notSynchronized
  have hin : meth.name = "<init>" := (name_of_methodNamed B.named B.method).1
  have f1 := va_RA_int (hK.2 0 _ rfl).2
  have f2 := va_RA_int2 (hK.2 2 _ rfl).2
  have hS : va_S (fA (h0 + q) 6 ((h0 + q) + 1)) s.heap s.heap [] := va_S.rf
  have hAD : ∀ n, n ≤ 6 → ∀ k, k < n → (fA (h0 + q) 6 ((h0 + q) + 1)) ((h0 + q) + k) := fun n hn k hk => fA_in k (Nat.lt_of_lt_of_le hk hn)
  have hl := lv_entry ([.ref (h0 + q), .int (iZ (1100))]) (n := 3) (Nat.le_of_ble_eq_true rfl)
  rw [lg_entry_eq]
  generalize (lg_sl ([.ref (h0 + q), .int (iZ (1100))]) ++ List.replicate (3 - (lg_sl ([.ref (h0 + q), .int (iZ (1100))])).length) Slot.unset).toArray = ls at hl ⊢
  have hl : lv_has ls 3 [(0, .ref (h0 + q)), (1, .int (iZ (1100)))] := hl
  refine lv_aload_n hx hb dX4_init_0 rfl (lv_at hl 0 rfl) ?_
  refine W.objInit hx hb hown (hts _ k73) (hts _ k27) (hts _ k28) rfl (by rw [hml]; exact hl.1) rfl dX4_init_1 (Nat.le_of_ble_eq_true rfl) (Nat.le_of_ble_eq_true rfl) ?_
  refine W.eq (g2 := F0 m 4 ls []) rfl ?_
  refine lv_aload_n hx hb dX4_init_4 rfl (lv_at hl 0 rfl) ?_
  refine lv_iconst (v := iZ 0) hx hb dX4_init_5 rfl ?_
  refine va_put (D := (dC, dI)) (ci := 4) (v := .int (iZ 0)) (ty := .int) (C := RX4) (T := TX4) (N := 8) hx hb hts inG4 tyX4 tyX4_ok nmX4 hown hK hP (fl_D (hAD 1 (by decide))) hS 0 (cwb_get (by decide)) rfl 5 (by decide) (hts _ k92) (fun _ h9 => h9) rfl (by decide +kernel) rfl rfl (Nat.le_of_ble_eq_true rfl) dX4_init_6 (fun H locs hP _ hS => ?_)
  have hP : va_P (dC, dI) vwCl (fl (h0 + q) 1 (cwb (fun k => sE cI cZ cII cIII h0 (q + k) (fun x => iZ (sI (q + k) x))) 4 [.null, .null, .null, .null, .null, .int (iZ 0), .int 0, .int 0] 0 ((fun k => sE cI cZ cII cIII h0 (q + k) (fun x => iZ (sI (q + k) x))) 0))) H := cwb_setP hP
  refine lv_aload_n hx hb dX4_init_9 rfl (lv_at hl 0 rfl) ?_
  refine lv_iconst (v := iZ 0) hx hb dX4_init_10 rfl ?_
  refine va_put (D := (dC, dI)) (ci := 4) (v := .int (iZ 0)) (ty := .int) (C := RX4) (T := TX4) (N := 8) hx hb hts inG4 tyX4 tyX4_ok nmX4 hown hK hP (fl_D (hAD 1 (by decide))) hS 0 (cwb_get (by decide)) rfl 6 (by decide) (hts _ k100) (fun _ h9 => h9) rfl (by decide +kernel) rfl rfl (Nat.le_of_ble_eq_true rfl) dX4_init_11 (fun H locs hP _ hS => ?_)
  have hP : va_P (dC, dI) vwCl (fl (h0 + q) 1 (cwb (fun k => sE cI cZ cII cIII h0 (q + k) (fun x => iZ (sI (q + k) x))) 4 [.null, .null, .null, .null, .null, .int (iZ 0), .int (iZ 0), .int 0] 0 ((fun k => sE cI cZ cII cIII h0 (q + k) (fun x => iZ (sI (q + k) x))) 0))) H := cwb_setP hP
  refine lv_aload_n hx hb dX4_init_14 rfl (lv_at hl 0 rfl) ?_
  refine lv_iconst (v := iZ 0) hx hb dX4_init_15 rfl ?_
  refine va_put (D := (dC, dI)) (ci := 4) (v := .int (iZ 0)) (ty := .boolean) (C := RX4) (T := TX4) (N := 8) hx hb hts inG4 tyX4 tyX4_ok nmX4 hown hK hP (fl_D (hAD 1 (by decide))) hS 0 (cwb_get (by decide)) rfl 7 (by decide) (hts _ k103) (fun _ h9 => h9) rfl (by decide +kernel) rfl rfl (Nat.le_of_ble_eq_true rfl) dX4_init_16 (fun H locs hP _ hS => ?_)
  have hP : va_P (dC, dI) vwCl (fl (h0 + q) 1 (cwb (fun k => sE cI cZ cII cIII h0 (q + k) (fun x => iZ (sI (q + k) x))) 4 [.null, .null, .null, .null, .null, .int (iZ 0), .int (iZ 0), .int (iZ 0)] 0 ((fun k => sE cI cZ cII cIII h0 (q + k) (fun x => iZ (sI (q + k) x))) 0))) H := cwb_setP hP
  refine lv_iload_n hx hb dX4_init_19 rfl (lv_at hl 1 rfl) ?_
  refine lv_iconst (v := iZ 1) hx hb dX4_init_20 rfl ?_
  refine va_mmax hx hb (hml.trans hl.1.symm) hown (hts _ k74) (hts _ k75) (hts _ k4) (hts _ k76) (Nat.le_of_ble_eq_true rfl) (Nat.le_of_ble_eq_true rfl) (Nat.le_of_ble_eq_true rfl) (Nat.le_of_ble_eq_true rfl) dX4_init_21 ?_
  refine lv_topi (fun x9 ex9 => ?_)
  obtain rfl : x9 = iZ 1100 := ex9.trans (by decide +kernel)
  refine lv_istore_n (lv' := [(2, .int (iZ 1100)), (0, .ref (h0 + q)), (1, .int (iZ (1100)))]) hx hb dX4_init_24 rfl hl (by decide) rfl (fun ls hl => ?_)
  refine lv_aload_n hx hb dX4_init_25 rfl (lv_at hl 1 rfl) ?_
  refine lv_iload_n hx hb dX4_init_26 rfl (lv_at hl 0 rfl) ?_
  refine cz_new (atype := .int) (n := 1) (cA := cI) (N' := 1100) (a0 := (1100, .inl (fun _ => 0))) hx hb (hts _ k65) f1 hP (by decide) (by (first | ((try clear ex9); (try clear hAD); (try clear f2); (try clear f1); (try clear hin); (try clear hT0); (try clear s₁); omega) | omega)) hS ((cwb_n (by decide) (by decide)).trans ((congrArg (sE cI cZ cII cIII h0 (q + 1)) (sI_z (row_z hq (by decide)))).trans (sE_rowA (r := 1) hq (by decide) _))) (fun _ => rfl) (by decide +kernel) (by decide +kernel) (Nat.le_of_ble_eq_true rfl) (Nat.le_of_ble_eq_true rfl) (Nat.le_of_ble_eq_true rfl) dX4_init_27 (fun H hP hS => ?_)
  refine W.widen (k := 1) (n := 1100) (by (first | ((try clear ex9); (try clear hAD); (try clear f2); (try clear f1); (try clear hin); (try clear hT0); (try clear hsz); (try clear s₁); omega) | omega)) (by (first | ((try clear ex9); (try clear hAD); (try clear f2); (try clear f1); (try clear hin); (try clear hT0); (try clear hsz); (try clear s₁); omega) | omega)) ?_
  have hP : va_P (dC, dI) vwCl (fl (h0 + q) 2 (cwb (fun k => sE cI cZ cII cIII h0 (q + k) (fun x => iZ (sI (q + k) x))) 4 [.null, .null, .null, .null, .null, .int (iZ 0), .int (iZ 0), .int (iZ 0)] 0 ((fun k => sE cI cZ cII cIII h0 (q + k) (fun x => iZ (sI (q + k) x))) 0))) H := hP
  refine va_putF (D := (dC, dI)) (ci := 4) (v := .ref ((h0 + q) + 1)) (ty := .array .int) (C := RX4) (T := TX4) (N := 8) hx hb hts inG4 tyX4 tyX4_ok nmX4 hown hK hP (fl_D (hAD 2 (by decide))) hS 0 (cwb_get (by decide)) rfl 0 (by decide) (hts _ k77) (fun _ h9 => h9) rfl hin rfl (by decide +kernel) rfl rfl (Nat.le_of_ble_eq_true rfl) dX4_init_29 (fun H locs hP _ hS => ?_)
  have hP : va_P (dC, dI) vwCl (fl (h0 + q) 2 (cwb (fun k => sE cI cZ cII cIII h0 (q + k) (fun x => iZ (sI (q + k) x))) 4 [.ref ((h0 + q) + 1), .null, .null, .null, .null, .int (iZ 0), .int (iZ 0), .int (iZ 0)] 0 ((fun k => sE cI cZ cII cIII h0 (q + k) (fun x => iZ (sI (q + k) x))) 0))) H := cwb_setP hP
  refine lv_aload_n hx hb dX4_init_32 rfl (lv_at hl 1 rfl) ?_
  refine lv_iload_n hx hb dX4_init_33 rfl (lv_at hl 0 rfl) ?_
  refine cz_new (atype := .int) (n := 2) (cA := cI) (N' := 1100) (a0 := (1100, .inl (fun _ => 0))) hx hb (hts _ k65) f1 hP (by decide) (by (first | ((try clear ex9); (try clear hAD); (try clear f2); (try clear f1); (try clear hin); (try clear hT0); (try clear s₁); omega) | omega)) hS ((cwb_n (by decide) (by decide)).trans ((congrArg (sE cI cZ cII cIII h0 (q + 2)) (sI_z (row_z hq (by decide)))).trans (sE_rowA (r := 2) hq (by decide) _))) (fun _ => rfl) (by decide +kernel) (by decide +kernel) (Nat.le_of_ble_eq_true rfl) (Nat.le_of_ble_eq_true rfl) (Nat.le_of_ble_eq_true rfl) dX4_init_34 (fun H hP hS => ?_)
  refine W.widen (k := 2) (n := 2200) (by (first | ((try clear ex9); (try clear hAD); (try clear f2); (try clear f1); (try clear hin); (try clear hT0); (try clear hsz); (try clear s₁); omega) | omega)) (by (first | ((try clear ex9); (try clear hAD); (try clear f2); (try clear f1); (try clear hin); (try clear hT0); (try clear hsz); (try clear s₁); omega) | omega)) ?_
  have hP : va_P (dC, dI) vwCl (fl (h0 + q) 3 (cwb (fun k => sE cI cZ cII cIII h0 (q + k) (fun x => iZ (sI (q + k) x))) 4 [.ref ((h0 + q) + 1), .null, .null, .null, .null, .int (iZ 0), .int (iZ 0), .int (iZ 0)] 0 ((fun k => sE cI cZ cII cIII h0 (q + k) (fun x => iZ (sI (q + k) x))) 0))) H := hP
  refine va_putF (D := (dC, dI)) (ci := 4) (v := .ref ((h0 + q) + 2)) (ty := .array .int) (C := RX4) (T := TX4) (N := 8) hx hb hts inG4 tyX4 tyX4_ok nmX4 hown hK hP (fl_D (hAD 3 (by decide))) hS 0 (cwb_get (by decide)) rfl 1 (by decide) (hts _ k83) (fun _ h9 => h9) rfl hin rfl (by decide +kernel) rfl rfl (Nat.le_of_ble_eq_true rfl) dX4_init_36 (fun H locs hP _ hS => ?_)
  have hP : va_P (dC, dI) vwCl (fl (h0 + q) 3 (cwb (fun k => sE cI cZ cII cIII h0 (q + k) (fun x => iZ (sI (q + k) x))) 4 [.ref ((h0 + q) + 1), .ref ((h0 + q) + 2), .null, .null, .null, .int (iZ 0), .int (iZ 0), .int (iZ 0)] 0 ((fun k => sE cI cZ cII cIII h0 (q + k) (fun x => iZ (sI (q + k) x))) 0))) H := cwb_setP hP
  refine lv_aload_n hx hb dX4_init_39 rfl (lv_at hl 1 rfl) ?_
  refine lv_iload_n hx hb dX4_init_40 rfl (lv_at hl 0 rfl) ?_
  refine lv_iconst (v := iZ 1) hx hb dX4_init_41 rfl ?_
  refine lv_iadd hx hb dX4_init_42 ?_
  refine lv_topi (fun x9 ex9 => ?_)
  obtain rfl : x9 = iZ 1101 := ex9.trans (by decide +kernel)
  refine cz_new (atype := .int) (n := 3) (cA := cI) (N' := 1101) (a0 := (1101, .inl (fun _ => 0))) hx hb (hts _ k65) f1 hP (by decide) (by (first | ((try clear ex9); (try clear hAD); (try clear f2); (try clear f1); (try clear hin); (try clear hT0); (try clear s₁); omega) | omega)) hS ((cwb_n (by decide) (by decide)).trans ((congrArg (sE cI cZ cII cIII h0 (q + 3)) (sI_z (row_z hq (by decide)))).trans (sE_row3 hq _))) (fun _ => rfl) (by decide +kernel) (by decide +kernel) (Nat.le_of_ble_eq_true rfl) (Nat.le_of_ble_eq_true rfl) (Nat.le_of_ble_eq_true rfl) dX4_init_43 (fun H hP hS => ?_)
  refine W.widen (k := 3) (n := 3301) (by (first | ((try clear ex9); (try clear hAD); (try clear f2); (try clear f1); (try clear hin); (try clear hT0); (try clear hsz); (try clear s₁); omega) | omega)) (by (first | ((try clear ex9); (try clear hAD); (try clear f2); (try clear f1); (try clear hin); (try clear hT0); (try clear hsz); (try clear s₁); omega) | omega)) ?_
  have hP : va_P (dC, dI) vwCl (fl (h0 + q) 4 (cwb (fun k => sE cI cZ cII cIII h0 (q + k) (fun x => iZ (sI (q + k) x))) 4 [.ref ((h0 + q) + 1), .ref ((h0 + q) + 2), .null, .null, .null, .int (iZ 0), .int (iZ 0), .int (iZ 0)] 0 ((fun k => sE cI cZ cII cIII h0 (q + k) (fun x => iZ (sI (q + k) x))) 0))) H := hP
  refine va_putF (D := (dC, dI)) (ci := 4) (v := .ref ((h0 + q) + 3)) (ty := .array .int) (C := RX4) (T := TX4) (N := 8) hx hb hts inG4 tyX4 tyX4_ok nmX4 hown hK hP (fl_D (hAD 4 (by decide))) hS 0 (cwb_get (by decide)) rfl 2 (by decide) (hts _ k87) (fun _ h9 => h9) rfl hin rfl (by decide +kernel) rfl rfl (Nat.le_of_ble_eq_true rfl) dX4_init_45 (fun H locs hP _ hS => ?_)
  have hP : va_P (dC, dI) vwCl (fl (h0 + q) 4 (cwb (fun k => sE cI cZ cII cIII h0 (q + k) (fun x => iZ (sI (q + k) x))) 4 [.ref ((h0 + q) + 1), .ref ((h0 + q) + 2), .ref ((h0 + q) + 3), .null, .null, .int (iZ 0), .int (iZ 0), .int (iZ 0)] 0 ((fun k => sE cI cZ cII cIII h0 (q + k) (fun x => iZ (sI (q + k) x))) 0))) H := cwb_setP hP
  refine lv_aload_n hx hb dX4_init_48 rfl (lv_at hl 1 rfl) ?_
  refine lv_iload_n hx hb dX4_init_49 rfl (lv_at hl 0 rfl) ?_
  refine cz_new (atype := .int) (n := 4) (cA := cI) (N' := 1100) (a0 := (1100, .inl (fun _ => 0))) hx hb (hts _ k65) f1 hP (by decide) (by (first | ((try clear ex9); (try clear hAD); (try clear f2); (try clear f1); (try clear hin); (try clear hT0); (try clear s₁); omega) | omega)) hS ((cwb_n (by decide) (by decide)).trans ((congrArg (sE cI cZ cII cIII h0 (q + 4)) (sI_z (row_z hq (by decide)))).trans (sE_rowA (r := 4) hq (by decide) _))) (fun _ => rfl) (by decide +kernel) (by decide +kernel) (Nat.le_of_ble_eq_true rfl) (Nat.le_of_ble_eq_true rfl) (Nat.le_of_ble_eq_true rfl) dX4_init_50 (fun H hP hS => ?_)
  refine W.widen (k := 4) (n := 4401) (by (first | ((try clear ex9); (try clear hAD); (try clear f2); (try clear f1); (try clear hin); (try clear hT0); (try clear hsz); (try clear s₁); omega) | omega)) (by (first | ((try clear ex9); (try clear hAD); (try clear f2); (try clear f1); (try clear hin); (try clear hT0); (try clear hsz); (try clear s₁); omega) | omega)) ?_
  have hP : va_P (dC, dI) vwCl (fl (h0 + q) 5 (cwb (fun k => sE cI cZ cII cIII h0 (q + k) (fun x => iZ (sI (q + k) x))) 4 [.ref ((h0 + q) + 1), .ref ((h0 + q) + 2), .ref ((h0 + q) + 3), .null, .null, .int (iZ 0), .int (iZ 0), .int (iZ 0)] 0 ((fun k => sE cI cZ cII cIII h0 (q + k) (fun x => iZ (sI (q + k) x))) 0))) H := hP
  refine va_putF (D := (dC, dI)) (ci := 4) (v := .ref ((h0 + q) + 4)) (ty := .array .int) (C := RX4) (T := TX4) (N := 8) hx hb hts inG4 tyX4 tyX4_ok nmX4 hown hK hP (fl_D (hAD 5 (by decide))) hS 0 (cwb_get (by decide)) rfl 3 (by decide) (hts _ k88) (fun _ h9 => h9) rfl hin rfl (by decide +kernel) rfl rfl (Nat.le_of_ble_eq_true rfl) dX4_init_52 (fun H locs hP _ hS => ?_)
  have hP : va_P (dC, dI) vwCl (fl (h0 + q) 5 (cwb (fun k => sE cI cZ cII cIII h0 (q + k) (fun x => iZ (sI (q + k) x))) 4 [.ref ((h0 + q) + 1), .ref ((h0 + q) + 2), .ref ((h0 + q) + 3), .ref ((h0 + q) + 4), .null, .int (iZ 0), .int (iZ 0), .int (iZ 0)] 0 ((fun k => sE cI cZ cII cIII h0 (q + k) (fun x => iZ (sI (q + k) x))) 0))) H := cwb_setP hP
  refine lv_aload_n hx hb dX4_init_55 rfl (lv_at hl 1 rfl) ?_
  refine lv_iload_n hx hb dX4_init_56 rfl (lv_at hl 0 rfl) ?_
  refine cz_new (atype := .int) (n := 5) (cA := cI) (N' := 1100) (a0 := (1100, .inl (fun _ => 0))) hx hb (hts _ k65) f1 hP (by decide) (by (first | ((try clear ex9); (try clear hAD); (try clear f2); (try clear f1); (try clear hin); (try clear hT0); (try clear s₁); omega) | omega)) hS ((cwb_n (by decide) (by decide)).trans ((congrArg (sE cI cZ cII cIII h0 (q + 5)) (sI_z (row_z hq (by decide)))).trans (sE_rowA (r := 5) hq (by decide) _))) (fun _ => rfl) (by decide +kernel) (by decide +kernel) (Nat.le_of_ble_eq_true rfl) (Nat.le_of_ble_eq_true rfl) (Nat.le_of_ble_eq_true rfl) dX4_init_57 (fun H hP hS => ?_)
  refine W.widen (k := 5) (n := 5501) (by (first | ((try clear ex9); (try clear hAD); (try clear f2); (try clear f1); (try clear hin); (try clear hT0); (try clear hsz); (try clear s₁); omega) | omega)) (by (first | ((try clear ex9); (try clear hAD); (try clear f2); (try clear f1); (try clear hin); (try clear hT0); (try clear hsz); (try clear s₁); omega) | omega)) ?_
  have hP : va_P (dC, dI) vwCl (fl (h0 + q) 6 (cwb (fun k => sE cI cZ cII cIII h0 (q + k) (fun x => iZ (sI (q + k) x))) 4 [.ref ((h0 + q) + 1), .ref ((h0 + q) + 2), .ref ((h0 + q) + 3), .ref ((h0 + q) + 4), .null, .int (iZ 0), .int (iZ 0), .int (iZ 0)] 0 ((fun k => sE cI cZ cII cIII h0 (q + k) (fun x => iZ (sI (q + k) x))) 0))) H := hP
  refine va_putF (D := (dC, dI)) (ci := 4) (v := .ref ((h0 + q) + 5)) (ty := .array .int) (C := RX4) (T := TX4) (N := 8) hx hb hts inG4 tyX4 tyX4_ok nmX4 hown hK hP (fl_D (hAD 6 (by decide))) hS 0 (cwb_get (by decide)) rfl 4 (by decide) (hts _ k90) (fun _ h9 => h9) rfl hin rfl (by decide +kernel) rfl rfl (Nat.le_of_ble_eq_true rfl) dX4_init_59 (fun H locs hP _ hS => ?_)
  have hP : va_P (dC, dI) vwCl (fl (h0 + q) 6 (cwb (fun k => sE cI cZ cII cIII h0 (q + k) (fun x => iZ (sI (q + k) x))) 4 [.ref ((h0 + q) + 1), .ref ((h0 + q) + 2), .ref ((h0 + q) + 3), .ref ((h0 + q) + 4), .ref ((h0 + q) + 5), .int (iZ 0), .int (iZ 0), .int (iZ 0)] 0 ((fun k => sE cI cZ cII cIII h0 (q + k) (fun x => iZ (sI (q + k) x))) 0))) H := cwb_setP hP
  have hPf : va_P (dC, dI) vwCl (fl (h0 + q) 6 (fun k => sE cI cZ cII cIII h0 (q + k) (fun x => iZ (sI (q + k) x)))) H := fl_eq hP (fun k hk => cwb_e (Rf := (fun k => sE cI cZ cII cIII h0 (q + k) (fun x => iZ (sI (q + k) x)))) ((congrArg (sE cI cZ cII cIII h0 (q + 0)) (sI_z (row_z (k := 0) hq (by decide)))).trans ((sE_rowO hq _).trans rfl)) k)
  exact W.vret hx hb hr (fun t ht hW => ⟨⟨(), rfl, trivial, by rw [ht]; exact hPf, va_K.moved hW.alike hK⟩, hS.F ht⟩) hS.2.2 dX4_init_62
set_option maxHeartbeats 4000000 in
set_option maxRecDepth 100000 in
theorem k_Row96 (l : Launch) (dC : Nat → ClassId) (dI : Nat → Nat → Nat) (h0 : Nat) (cI cZ cII cIII : ClassId) (q : Nat) (hq : rowB q 96) : Met l yX4_init (Cond.code yX4_init cX4_init 3 none :: wsG) ({ frames := 1, cells := 5, slots := 481, locals := 21 } : Room) (va_Pc [.ref (h0 + q), .int (iZ (96))] (fun U => U.heap.size = (h0 + q) + 1 ∧ va_P (dC, dI) vwCl (fl (h0 + q) 1 (cwb (fun k => sE cI cZ cII cIII h0 (q + k) (fun x => iZ (sI (q + k) x))) 4 [.null, .null, .null, .null, .null, .int 0, .int 0, .int 0] 0 ((fun k => sE cI cZ cII cIII h0 (q + k) (fun x => iZ (sI (q + k) x))) 0))) U.heap ∧ va_K (dC, dI) vwCl (sT cI cZ cII cIII) U ∧ mu_T U)) (va_Qv (fun (_ : Unit) => True) (fun (_ : Unit) (t : State) => va_P (dC, dI) vwCl (fl (h0 + q) 6 (fun k => sE cI cZ cII cIII h0 (q + k) (fun x => iZ (sI (q + k) x)))) t.heap ∧ va_K (dC, dI) vwCl (sT cI cZ cII cIII) t) (fA (h0 + q) 6 ((h0 + q) + 1))) 5 481 (fA (h0 + q) 6 ((h0 + q) + 1)) := by
  refine Met.ofW (cc := cX4_init) (maxL := 3) (ret := none) (by decide) rfl ?_
  intro p e s m args below meth c s₁ B hml hv
  obtain ⟨rfl, hsz, hP, hK, hT0⟩ := hv
  have hx := B.exec
  have hb := B.bytes
  have hr := B.returns
  have hts : ∀ w ∈ wsG, w.before _ s = true := hG_of (atoms_spec (ws := (Cond.code yX4_init cX4_init 3 none :: wsG)) B.pre)
  have hown : s.vm.findClass RX4 = some m.cls := findClass_of_methodNamed B.named
  have hlocks := B.notSynchronized
  have hin : meth.name = "<init>" := (name_of_methodNamed B.named B.method).1
  have f1 := va_RA_int (hK.2 0 _ rfl).2
  have f2 := va_RA_int2 (hK.2 2 _ rfl).2
  have hS : va_S (fA (h0 + q) 6 ((h0 + q) + 1)) s.heap s.heap [] := va_S.rf
  have hAD : ∀ n, n ≤ 6 → ∀ k, k < n → (fA (h0 + q) 6 ((h0 + q) + 1)) ((h0 + q) + k) := fun n hn k hk => fA_in k (Nat.lt_of_lt_of_le hk hn)
  have hl := lv_entry ([.ref (h0 + q), .int (iZ (96))]) (n := 3) (Nat.le_of_ble_eq_true rfl)
  rw [lg_entry_eq]
  generalize (lg_sl ([.ref (h0 + q), .int (iZ (96))]) ++ List.replicate (3 - (lg_sl ([.ref (h0 + q), .int (iZ (96))])).length) Slot.unset).toArray = ls at hl ⊢
  have hl : lv_has ls 3 [(0, .ref (h0 + q)), (1, .int (iZ (96)))] := hl
  refine lv_aload_n hx hb dX4_init_0 rfl (lv_at hl 0 rfl) ?_
  refine W.objInit hx hb hown (hts _ k73) (hts _ k27) (hts _ k28) rfl (by rw [hml]; exact hl.1) rfl dX4_init_1 (Nat.le_of_ble_eq_true rfl) (Nat.le_of_ble_eq_true rfl) ?_
  refine W.eq (g2 := F0 m 4 ls []) rfl ?_
  refine lv_aload_n hx hb dX4_init_4 rfl (lv_at hl 0 rfl) ?_
  refine lv_iconst (v := iZ 0) hx hb dX4_init_5 rfl ?_
  refine va_put (D := (dC, dI)) (ci := 4) (v := .int (iZ 0)) (ty := .int) (C := RX4) (T := TX4) (N := 8) hx hb hts inG4 tyX4 tyX4_ok nmX4 hown hK hP (fl_D (hAD 1 (by decide))) hS 0 (cwb_get (by decide)) rfl 5 (by decide) (hts _ k92) (fun _ h9 => h9) rfl (by decide +kernel) rfl rfl (Nat.le_of_ble_eq_true rfl) dX4_init_6 (fun H locs hP _ hS => ?_)
  have hP : va_P (dC, dI) vwCl (fl (h0 + q) 1 (cwb (fun k => sE cI cZ cII cIII h0 (q + k) (fun x => iZ (sI (q + k) x))) 4 [.null, .null, .null, .null, .null, .int (iZ 0), .int 0, .int 0] 0 ((fun k => sE cI cZ cII cIII h0 (q + k) (fun x => iZ (sI (q + k) x))) 0))) H := cwb_setP hP
  refine lv_aload_n hx hb dX4_init_9 rfl (lv_at hl 0 rfl) ?_
  refine lv_iconst (v := iZ 0) hx hb dX4_init_10 rfl ?_
  refine va_put (D := (dC, dI)) (ci := 4) (v := .int (iZ 0)) (ty := .int) (C := RX4) (T := TX4) (N := 8) hx hb hts inG4 tyX4 tyX4_ok nmX4 hown hK hP (fl_D (hAD 1 (by decide))) hS 0 (cwb_get (by decide)) rfl 6 (by decide) (hts _ k100) (fun _ h9 => h9) rfl (by decide +kernel) rfl rfl (Nat.le_of_ble_eq_true rfl) dX4_init_11 (fun H locs hP _ hS => ?_)
  have hP : va_P (dC, dI) vwCl (fl (h0 + q) 1 (cwb (fun k => sE cI cZ cII cIII h0 (q + k) (fun x => iZ (sI (q + k) x))) 4 [.null, .null, .null, .null, .null, .int (iZ 0), .int (iZ 0), .int 0] 0 ((fun k => sE cI cZ cII cIII h0 (q + k) (fun x => iZ (sI (q + k) x))) 0))) H := cwb_setP hP
  refine lv_aload_n hx hb dX4_init_14 rfl (lv_at hl 0 rfl) ?_
  refine lv_iconst (v := iZ 0) hx hb dX4_init_15 rfl ?_
  refine va_put (D := (dC, dI)) (ci := 4) (v := .int (iZ 0)) (ty := .boolean) (C := RX4) (T := TX4) (N := 8) hx hb hts inG4 tyX4 tyX4_ok nmX4 hown hK hP (fl_D (hAD 1 (by decide))) hS 0 (cwb_get (by decide)) rfl 7 (by decide) (hts _ k103) (fun _ h9 => h9) rfl (by decide +kernel) rfl rfl (Nat.le_of_ble_eq_true rfl) dX4_init_16 (fun H locs hP _ hS => ?_)
  have hP : va_P (dC, dI) vwCl (fl (h0 + q) 1 (cwb (fun k => sE cI cZ cII cIII h0 (q + k) (fun x => iZ (sI (q + k) x))) 4 [.null, .null, .null, .null, .null, .int (iZ 0), .int (iZ 0), .int (iZ 0)] 0 ((fun k => sE cI cZ cII cIII h0 (q + k) (fun x => iZ (sI (q + k) x))) 0))) H := cwb_setP hP
  refine lv_iload_n hx hb dX4_init_19 rfl (lv_at hl 1 rfl) ?_
  refine lv_iconst (v := iZ 1) hx hb dX4_init_20 rfl ?_
  refine va_mmax hx hb (hml.trans hl.1.symm) hown (hts _ k74) (hts _ k75) (hts _ k4) (hts _ k76) (Nat.le_of_ble_eq_true rfl) (Nat.le_of_ble_eq_true rfl) (Nat.le_of_ble_eq_true rfl) (Nat.le_of_ble_eq_true rfl) dX4_init_21 ?_
  refine lv_topi (fun x9 ex9 => ?_)
  obtain rfl : x9 = iZ 96 := ex9.trans (by decide +kernel)
  refine lv_istore_n (lv' := [(2, .int (iZ 96)), (0, .ref (h0 + q)), (1, .int (iZ (96)))]) hx hb dX4_init_24 rfl hl (by decide) rfl (fun ls hl => ?_)
  refine lv_aload_n hx hb dX4_init_25 rfl (lv_at hl 1 rfl) ?_
  refine lv_iload_n hx hb dX4_init_26 rfl (lv_at hl 0 rfl) ?_
  refine cz_new (atype := .int) (n := 1) (cA := cI) (N' := 96) (a0 := (96, .inl (fun _ => 0))) hx hb (hts _ k65) f1 hP (by decide) (by (first | ((try clear ex9); (try clear hAD); (try clear f2); (try clear f1); (try clear hin); (try clear hT0); (try clear s₁); omega) | omega)) hS ((cwb_n (by decide) (by decide)).trans ((congrArg (sE cI cZ cII cIII h0 (q + 1)) (sI_z (row_z hq (by decide)))).trans (sE_rowA (r := 1) hq (by decide) _))) (fun _ => rfl) (by decide +kernel) (by decide +kernel) (Nat.le_of_ble_eq_true rfl) (Nat.le_of_ble_eq_true rfl) (Nat.le_of_ble_eq_true rfl) dX4_init_27 (fun H hP hS => ?_)
  refine W.widen (k := 1) (n := 96) (by (first | ((try clear ex9); (try clear hAD); (try clear f2); (try clear f1); (try clear hin); (try clear hT0); (try clear hsz); (try clear s₁); omega) | omega)) (by (first | ((try clear ex9); (try clear hAD); (try clear f2); (try clear f1); (try clear hin); (try clear hT0); (try clear hsz); (try clear s₁); omega) | omega)) ?_
  have hP : va_P (dC, dI) vwCl (fl (h0 + q) 2 (cwb (fun k => sE cI cZ cII cIII h0 (q + k) (fun x => iZ (sI (q + k) x))) 4 [.null, .null, .null, .null, .null, .int (iZ 0), .int (iZ 0), .int (iZ 0)] 0 ((fun k => sE cI cZ cII cIII h0 (q + k) (fun x => iZ (sI (q + k) x))) 0))) H := hP
  refine va_putF (D := (dC, dI)) (ci := 4) (v := .ref ((h0 + q) + 1)) (ty := .array .int) (C := RX4) (T := TX4) (N := 8) hx hb hts inG4 tyX4 tyX4_ok nmX4 hown hK hP (fl_D (hAD 2 (by decide))) hS 0 (cwb_get (by decide)) rfl 0 (by decide) (hts _ k77) (fun _ h9 => h9) rfl hin rfl (by decide +kernel) rfl rfl (Nat.le_of_ble_eq_true rfl) dX4_init_29 (fun H locs hP _ hS => ?_)
  have hP : va_P (dC, dI) vwCl (fl (h0 + q) 2 (cwb (fun k => sE cI cZ cII cIII h0 (q + k) (fun x => iZ (sI (q + k) x))) 4 [.ref ((h0 + q) + 1), .null, .null, .null, .null, .int (iZ 0), .int (iZ 0), .int (iZ 0)] 0 ((fun k => sE cI cZ cII cIII h0 (q + k) (fun x => iZ (sI (q + k) x))) 0))) H := cwb_setP hP
  refine lv_aload_n hx hb dX4_init_32 rfl (lv_at hl 1 rfl) ?_
  refine lv_iload_n hx hb dX4_init_33 rfl (lv_at hl 0 rfl) ?_
  refine cz_new (atype := .int) (n := 2) (cA := cI) (N' := 96) (a0 := (96, .inl (fun _ => 0))) hx hb (hts _ k65) f1 hP (by decide) (by (first | ((try clear ex9); (try clear hAD); (try clear f2); (try clear f1); (try clear hin); (try clear hT0); (try clear s₁); omega) | omega)) hS ((cwb_n (by decide) (by decide)).trans ((congrArg (sE cI cZ cII cIII h0 (q + 2)) (sI_z (row_z hq (by decide)))).trans (sE_rowA (r := 2) hq (by decide) _))) (fun _ => rfl) (by decide +kernel) (by decide +kernel) (Nat.le_of_ble_eq_true rfl) (Nat.le_of_ble_eq_true rfl) (Nat.le_of_ble_eq_true rfl) dX4_init_34 (fun H hP hS => ?_)
  refine W.widen (k := 2) (n := 192) (by (first | ((try clear ex9); (try clear hAD); (try clear f2); (try clear f1); (try clear hin); (try clear hT0); (try clear hsz); (try clear s₁); omega) | omega)) (by (first | ((try clear ex9); (try clear hAD); (try clear f2); (try clear f1); (try clear hin); (try clear hT0); (try clear hsz); (try clear s₁); omega) | omega)) ?_
  have hP : va_P (dC, dI) vwCl (fl (h0 + q) 3 (cwb (fun k => sE cI cZ cII cIII h0 (q + k) (fun x => iZ (sI (q + k) x))) 4 [.ref ((h0 + q) + 1), .null, .null, .null, .null, .int (iZ 0), .int (iZ 0), .int (iZ 0)] 0 ((fun k => sE cI cZ cII cIII h0 (q + k) (fun x => iZ (sI (q + k) x))) 0))) H := hP
  refine va_putF (D := (dC, dI)) (ci := 4) (v := .ref ((h0 + q) + 2)) (ty := .array .int) (C := RX4) (T := TX4) (N := 8) hx hb hts inG4 tyX4 tyX4_ok nmX4 hown hK hP (fl_D (hAD 3 (by decide))) hS 0 (cwb_get (by decide)) rfl 1 (by decide) (hts _ k83) (fun _ h9 => h9) rfl hin rfl (by decide +kernel) rfl rfl (Nat.le_of_ble_eq_true rfl) dX4_init_36 (fun H locs hP _ hS => ?_)
  have hP : va_P (dC, dI) vwCl (fl (h0 + q) 3 (cwb (fun k => sE cI cZ cII cIII h0 (q + k) (fun x => iZ (sI (q + k) x))) 4 [.ref ((h0 + q) + 1), .ref ((h0 + q) + 2), .null, .null, .null, .int (iZ 0), .int (iZ 0), .int (iZ 0)] 0 ((fun k => sE cI cZ cII cIII h0 (q + k) (fun x => iZ (sI (q + k) x))) 0))) H := cwb_setP hP
  refine lv_aload_n hx hb dX4_init_39 rfl (lv_at hl 1 rfl) ?_
  refine lv_iload_n hx hb dX4_init_40 rfl (lv_at hl 0 rfl) ?_
  refine lv_iconst (v := iZ 1) hx hb dX4_init_41 rfl ?_
  refine lv_iadd hx hb dX4_init_42 ?_
  refine lv_topi (fun x9 ex9 => ?_)
  obtain rfl : x9 = iZ 97 := ex9.trans (by decide +kernel)
  refine cz_new (atype := .int) (n := 3) (cA := cI) (N' := 97) (a0 := (97, .inl (fun _ => 0))) hx hb (hts _ k65) f1 hP (by decide) (by (first | ((try clear ex9); (try clear hAD); (try clear f2); (try clear f1); (try clear hin); (try clear hT0); (try clear s₁); omega) | omega)) hS ((cwb_n (by decide) (by decide)).trans ((congrArg (sE cI cZ cII cIII h0 (q + 3)) (sI_z (row_z hq (by decide)))).trans (sE_row3 hq _))) (fun _ => rfl) (by decide +kernel) (by decide +kernel) (Nat.le_of_ble_eq_true rfl) (Nat.le_of_ble_eq_true rfl) (Nat.le_of_ble_eq_true rfl) dX4_init_43 (fun H hP hS => ?_)
  refine W.widen (k := 3) (n := 289) (by (first | ((try clear ex9); (try clear hAD); (try clear f2); (try clear f1); (try clear hin); (try clear hT0); (try clear hsz); (try clear s₁); omega) | omega)) (by (first | ((try clear ex9); (try clear hAD); (try clear f2); (try clear f1); (try clear hin); (try clear hT0); (try clear hsz); (try clear s₁); omega) | omega)) ?_
  have hP : va_P (dC, dI) vwCl (fl (h0 + q) 4 (cwb (fun k => sE cI cZ cII cIII h0 (q + k) (fun x => iZ (sI (q + k) x))) 4 [.ref ((h0 + q) + 1), .ref ((h0 + q) + 2), .null, .null, .null, .int (iZ 0), .int (iZ 0), .int (iZ 0)] 0 ((fun k => sE cI cZ cII cIII h0 (q + k) (fun x => iZ (sI (q + k) x))) 0))) H := hP
  refine va_putF (D := (dC, dI)) (ci := 4) (v := .ref ((h0 + q) + 3)) (ty := .array .int) (C := RX4) (T := TX4) (N := 8) hx hb hts inG4 tyX4 tyX4_ok nmX4 hown hK hP (fl_D (hAD 4 (by decide))) hS 0 (cwb_get (by decide)) rfl 2 (by decide) (hts _ k87) (fun _ h9 => h9) rfl hin rfl (by decide +kernel) rfl rfl (Nat.le_of_ble_eq_true rfl) dX4_init_45 (fun H locs hP _ hS => ?_)
  have hP : va_P (dC, dI) vwCl (fl (h0 + q) 4 (cwb (fun k => sE cI cZ cII cIII h0 (q + k) (fun x => iZ (sI (q + k) x))) 4 [.ref ((h0 + q) + 1), .ref ((h0 + q) + 2), .ref ((h0 + q) + 3), .null, .null, .int (iZ 0), .int (iZ 0), .int (iZ 0)] 0 ((fun k => sE cI cZ cII cIII h0 (q + k) (fun x => iZ (sI (q + k) x))) 0))) H := cwb_setP hP
  refine lv_aload_n hx hb dX4_init_48 rfl (lv_at hl 1 rfl) ?_
  refine lv_iload_n hx hb dX4_init_49 rfl (lv_at hl 0 rfl) ?_
  refine cz_new (atype := .int) (n := 4) (cA := cI) (N' := 96) (a0 := (96, .inl (fun _ => 0))) hx hb (hts _ k65) f1 hP (by decide) (by (first | ((try clear ex9); (try clear hAD); (try clear f2); (try clear f1); (try clear hin); (try clear hT0); (try clear s₁); omega) | omega)) hS ((cwb_n (by decide) (by decide)).trans ((congrArg (sE cI cZ cII cIII h0 (q + 4)) (sI_z (row_z hq (by decide)))).trans (sE_rowA (r := 4) hq (by decide) _))) (fun _ => rfl) (by decide +kernel) (by decide +kernel) (Nat.le_of_ble_eq_true rfl) (Nat.le_of_ble_eq_true rfl) (Nat.le_of_ble_eq_true rfl) dX4_init_50 (fun H hP hS => ?_)
  refine W.widen (k := 4) (n := 385) (by (first | ((try clear ex9); (try clear hAD); (try clear f2); (try clear f1); (try clear hin); (try clear hT0); (try clear hsz); (try clear s₁); omega) | omega)) (by (first | ((try clear ex9); (try clear hAD); (try clear f2); (try clear f1); (try clear hin); (try clear hT0); (try clear hsz); (try clear s₁); omega) | omega)) ?_
  have hP : va_P (dC, dI) vwCl (fl (h0 + q) 5 (cwb (fun k => sE cI cZ cII cIII h0 (q + k) (fun x => iZ (sI (q + k) x))) 4 [.ref ((h0 + q) + 1), .ref ((h0 + q) + 2), .ref ((h0 + q) + 3), .null, .null, .int (iZ 0), .int (iZ 0), .int (iZ 0)] 0 ((fun k => sE cI cZ cII cIII h0 (q + k) (fun x => iZ (sI (q + k) x))) 0))) H := hP
  refine va_putF (D := (dC, dI)) (ci := 4) (v := .ref ((h0 + q) + 4)) (ty := .array .int) (C := RX4) (T := TX4) (N := 8) hx hb hts inG4 tyX4 tyX4_ok nmX4 hown hK hP (fl_D (hAD 5 (by decide))) hS 0 (cwb_get (by decide)) rfl 3 (by decide) (hts _ k88) (fun _ h9 => h9) rfl hin rfl (by decide +kernel) rfl rfl (Nat.le_of_ble_eq_true rfl) dX4_init_52 (fun H locs hP _ hS => ?_)
  have hP : va_P (dC, dI) vwCl (fl (h0 + q) 5 (cwb (fun k => sE cI cZ cII cIII h0 (q + k) (fun x => iZ (sI (q + k) x))) 4 [.ref ((h0 + q) + 1), .ref ((h0 + q) + 2), .ref ((h0 + q) + 3), .ref ((h0 + q) + 4), .null, .int (iZ 0), .int (iZ 0), .int (iZ 0)] 0 ((fun k => sE cI cZ cII cIII h0 (q + k) (fun x => iZ (sI (q + k) x))) 0))) H := cwb_setP hP
  refine lv_aload_n hx hb dX4_init_55 rfl (lv_at hl 1 rfl) ?_
  refine lv_iload_n hx hb dX4_init_56 rfl (lv_at hl 0 rfl) ?_
  refine cz_new (atype := .int) (n := 5) (cA := cI) (N' := 96) (a0 := (96, .inl (fun _ => 0))) hx hb (hts _ k65) f1 hP (by decide) (by (first | ((try clear ex9); (try clear hAD); (try clear f2); (try clear f1); (try clear hin); (try clear hT0); (try clear s₁); omega) | omega)) hS ((cwb_n (by decide) (by decide)).trans ((congrArg (sE cI cZ cII cIII h0 (q + 5)) (sI_z (row_z hq (by decide)))).trans (sE_rowA (r := 5) hq (by decide) _))) (fun _ => rfl) (by decide +kernel) (by decide +kernel) (Nat.le_of_ble_eq_true rfl) (Nat.le_of_ble_eq_true rfl) (Nat.le_of_ble_eq_true rfl) dX4_init_57 (fun H hP hS => ?_)
  refine W.widen (k := 5) (n := 481) (by (first | ((try clear ex9); (try clear hAD); (try clear f2); (try clear f1); (try clear hin); (try clear hT0); (try clear hsz); (try clear s₁); omega) | omega)) (by (first | ((try clear ex9); (try clear hAD); (try clear f2); (try clear f1); (try clear hin); (try clear hT0); (try clear hsz); (try clear s₁); omega) | omega)) ?_
  have hP : va_P (dC, dI) vwCl (fl (h0 + q) 6 (cwb (fun k => sE cI cZ cII cIII h0 (q + k) (fun x => iZ (sI (q + k) x))) 4 [.ref ((h0 + q) + 1), .ref ((h0 + q) + 2), .ref ((h0 + q) + 3), .ref ((h0 + q) + 4), .null, .int (iZ 0), .int (iZ 0), .int (iZ 0)] 0 ((fun k => sE cI cZ cII cIII h0 (q + k) (fun x => iZ (sI (q + k) x))) 0))) H := hP
  refine va_putF (D := (dC, dI)) (ci := 4) (v := .ref ((h0 + q) + 5)) (ty := .array .int) (C := RX4) (T := TX4) (N := 8) hx hb hts inG4 tyX4 tyX4_ok nmX4 hown hK hP (fl_D (hAD 6 (by decide))) hS 0 (cwb_get (by decide)) rfl 4 (by decide) (hts _ k90) (fun _ h9 => h9) rfl hin rfl (by decide +kernel) rfl rfl (Nat.le_of_ble_eq_true rfl) dX4_init_59 (fun H locs hP _ hS => ?_)
  have hP : va_P (dC, dI) vwCl (fl (h0 + q) 6 (cwb (fun k => sE cI cZ cII cIII h0 (q + k) (fun x => iZ (sI (q + k) x))) 4 [.ref ((h0 + q) + 1), .ref ((h0 + q) + 2), .ref ((h0 + q) + 3), .ref ((h0 + q) + 4), .ref ((h0 + q) + 5), .int (iZ 0), .int (iZ 0), .int (iZ 0)] 0 ((fun k => sE cI cZ cII cIII h0 (q + k) (fun x => iZ (sI (q + k) x))) 0))) H := cwb_setP hP
  have hPf : va_P (dC, dI) vwCl (fl (h0 + q) 6 (fun k => sE cI cZ cII cIII h0 (q + k) (fun x => iZ (sI (q + k) x)))) H := fl_eq hP (fun k hk => cwb_e (Rf := (fun k => sE cI cZ cII cIII h0 (q + k) (fun x => iZ (sI (q + k) x)))) ((congrArg (sE cI cZ cII cIII h0 (q + 0)) (sI_z (row_z (k := 0) hq (by decide)))).trans ((sE_rowO hq _).trans rfl)) k)
  exact W.vret hx hb hr (fun t ht hW => ⟨⟨(), rfl, trivial, by rw [ht]; exact hPf, va_K.moved hW.alike hK⟩, hS.F ht⟩) hS.2.2 dX4_init_62
set_option maxHeartbeats 4000000 in
set_option maxRecDepth 100000 in
theorem k_Past (l : Launch) (dC : Nat → ClassId) (dI : Nat → Nat → Nat) (h0 : Nat) (cI cZ cII cIII : ClassId)  : Met l yX3_init (Cond.code yX3_init cX3_init 1 none :: wsG) ({ frames := 1, cells := 19, slots := 17648, locals := 14 } : Room) (va_Pc [.ref (h0 + 18)] (fun U => U.heap.size = (h0 + 18) + 1 ∧ va_P (dC, dI) vwCl (fl (h0 + 18) 1 (cwb (fun k => sE cI cZ cII cIII h0 (18 + k) (fun x => iZ (sI (18 + k) x))) 3 [.null, .null, .null, .int 0, .int 0] 0 ((fun k => sE cI cZ cII cIII h0 (18 + k) (fun x => iZ (sI (18 + k) x))) 0))) U.heap ∧ va_K (dC, dI) vwCl (sT cI cZ cII cIII) U ∧ mu_T U)) (va_Qv (fun (_ : Unit) => True) (fun (_ : Unit) (t : State) => va_P (dC, dI) vwCl (fl (h0 + 18) 20 (fun k => sE cI cZ cII cIII h0 (18 + k) (fun x => iZ (sI (18 + k) x)))) t.heap ∧ va_K (dC, dI) vwCl (sT cI cZ cII cIII) t) (fA (h0 + 18) 20 ((h0 + 18) + 1))) 19 17648 (fA (h0 + 18) 20 ((h0 + 18) + 1)) := by
  refine Met.ofW (cc := cX3_init) (maxL := 1) (ret := none) (by decide) rfl ?_
  intro p e s m args below meth c s₁ B hml hv
  obtain ⟨rfl, hsz, hP, hK, hT0⟩ := hv
  have hx := B.exec
  have hb := B.bytes
  have hr := B.returns
  have hts : ∀ w ∈ wsG, w.before _ s = true := hG_of (atoms_spec (ws := (Cond.code yX3_init cX3_init 1 none :: wsG)) B.pre)
  have hown : s.vm.findClass RX3 = some m.cls := findClass_of_methodNamed B.named
  have hlocks := B.notSynchronized
  have hin : meth.name = "<init>" := (name_of_methodNamed B.named B.method).1
  have f1 := va_RA_int (hK.2 0 _ rfl).2
  have f2 := va_RA_int2 (hK.2 2 _ rfl).2
  have hS : va_S (fA (h0 + 18) 20 ((h0 + 18) + 1)) s.heap s.heap [] := va_S.rf
  have hAD : ∀ n, n ≤ 20 → ∀ k, k < n → (fA (h0 + 18) 20 ((h0 + 18) + 1)) ((h0 + 18) + k) := fun n hn k hk => fA_in k (Nat.lt_of_lt_of_le hk hn)
  have hl := lv_entry ([.ref (h0 + 18)]) (n := 1) (Nat.le_of_ble_eq_true rfl)
  rw [lg_entry_eq]
  generalize (lg_sl ([.ref (h0 + 18)]) ++ List.replicate (1 - (lg_sl ([.ref (h0 + 18)])).length) Slot.unset).toArray = ls at hl ⊢
  have hl : lv_has ls 1 [(0, .ref (h0 + 18))] := hl
  refine lv_aload_n hx hb dX3_init_0 rfl (lv_at hl 0 rfl) ?_
  refine W.objInit hx hb hown (hts _ k127) (hts _ k27) (hts _ k28) rfl (by rw [hml]; exact hl.1) rfl dX3_init_1 (Nat.le_of_ble_eq_true rfl) (Nat.le_of_ble_eq_true rfl) ?_
  refine W.eq (g2 := F0 m 4 ls []) rfl ?_
  refine lv_aload_n hx hb dX3_init_4 rfl (lv_at hl 0 rfl) ?_
  refine lv_bipush (v := iZ 16) hx hb dX3_init_5 rfl ?_
  refine lv_sipush (v := iZ 1100) hx hb dX3_init_7 rfl ?_
  refine cz_mn2 (n := 1) (cI := cI) (cII := cII) (N' := 16) (M' := 1100) (kc := 17) (ks := 17616) hx hb hown (hts _ k128) f1 f2 hT0 hP (by decide) (by (first | ((try clear hAD); (try clear f2); (try clear f1); (try clear hin); (try clear hT0); (try clear s₁); omega) | omega)) hS (by decide +kernel) (by decide +kernel) (by decide +kernel) (Nat.eq_of_beq_eq_true rfl) (Nat.eq_of_beq_eq_true rfl) (Nat.le_of_ble_eq_true rfl) (Nat.le_of_ble_eq_true rfl) dX3_init_10 ((cwb_n (by decide) (by decide)).trans (sE_19 _)) (fun i => by split <;> simp <;> (first | ((try clear hAD); (try clear f2); (try clear f1); (try clear hin); (try clear hT0); (try clear hsz); (try clear s₁); omega) | omega)) (fun i hi => (cwb_n (by (first | ((try clear hAD); (try clear f2); (try clear f1); (try clear hin); (try clear hT0); (try clear hsz); (try clear s₁); omega) | omega)) (by (first | ((try clear hAD); (try clear f2); (try clear f1); (try clear hin); (try clear hT0); (try clear hsz); (try clear s₁); omega) | omega))).trans (by rw [show 18 + (1 + 1 + i) = 20 + i from by (first | ((try clear hi); (try clear hAD); (try clear f2); (try clear f1); (try clear hin); (try clear hT0); (try clear hsz); (try clear s₁); omega) | omega)]; exact (congrArg (sE cI cZ cII cIII h0 (20 + i)) (sI_z (by (first | ((try clear hAD); (try clear f2); (try clear f1); (try clear hin); (try clear hT0); (try clear hsz); (try clear s₁); omega) | omega)))).trans (sE_codes hi _))) (fun H hP hS => ?_)
  refine W.widen (k := 17) (n := 17616) (by (first | ((try clear hAD); (try clear f2); (try clear f1); (try clear hin); (try clear hT0); (try clear hsz); (try clear s₁); omega) | omega)) (by (first | ((try clear hAD); (try clear f2); (try clear f1); (try clear hin); (try clear hT0); (try clear hsz); (try clear s₁); omega) | omega)) ?_
  have hP : va_P (dC, dI) vwCl (fl (h0 + 18) 18 (cwb (fun k => sE cI cZ cII cIII h0 (18 + k) (fun x => iZ (sI (18 + k) x))) 3 [.null, .null, .null, .int 0, .int 0] 0 ((fun k => sE cI cZ cII cIII h0 (18 + k) (fun x => iZ (sI (18 + k) x))) 0))) H := hP
  refine va_putF (D := (dC, dI)) (ci := 3) (v := .ref ((h0 + 18) + 1)) (ty := .array (.array .int)) (C := RX3) (T := TX3) (N := 5) hx hb hts inG3 tyX3 tyX3_ok nmX3 hown hK hP (fl_D (hAD 18 (by decide))) hS 0 (cwb_get (by decide)) rfl 0 (by decide) (hts _ k130) (fun _ h9 => h9) rfl hin rfl (by decide +kernel) rfl rfl (Nat.le_of_ble_eq_true rfl) dX3_init_14 (fun H locs hP _ hS => ?_)
  have hP : va_P (dC, dI) vwCl (fl (h0 + 18) 18 (cwb (fun k => sE cI cZ cII cIII h0 (18 + k) (fun x => iZ (sI (18 + k) x))) 3 [.ref ((h0 + 18) + 1), .null, .null, .int 0, .int 0] 0 ((fun k => sE cI cZ cII cIII h0 (18 + k) (fun x => iZ (sI (18 + k) x))) 0))) H := cwb_setP hP
  refine lv_aload_n hx hb dX3_init_17 rfl (lv_at hl 0 rfl) ?_
  refine lv_bipush (v := iZ 16) hx hb dX3_init_18 rfl ?_
  refine cz_new (atype := .int) (n := 18) (cA := cI) (N' := 16) (a0 := (16, .inl (fun _ => 0))) hx hb (hts _ k65) f1 hP (by decide) (by (first | ((try clear hAD); (try clear f2); (try clear f1); (try clear hin); (try clear hT0); (try clear s₁); omega) | omega)) hS ((cwb_n (by decide) (by decide)).trans ((congrArg (sE cI cZ cII cIII h0 36) (sI_z (by decide))).trans (sE_36 _))) (fun _ => rfl) (by decide +kernel) (by decide +kernel) (Nat.le_of_ble_eq_true rfl) (Nat.le_of_ble_eq_true rfl) (Nat.le_of_ble_eq_true rfl) dX3_init_20 (fun H hP hS => ?_)
  refine W.widen (k := 18) (n := 17632) (by (first | ((try clear hAD); (try clear f2); (try clear f1); (try clear hin); (try clear hT0); (try clear hsz); (try clear s₁); omega) | omega)) (by (first | ((try clear hAD); (try clear f2); (try clear f1); (try clear hin); (try clear hT0); (try clear hsz); (try clear s₁); omega) | omega)) ?_
  have hP : va_P (dC, dI) vwCl (fl (h0 + 18) 19 (cwb (fun k => sE cI cZ cII cIII h0 (18 + k) (fun x => iZ (sI (18 + k) x))) 3 [.ref ((h0 + 18) + 1), .null, .null, .int 0, .int 0] 0 ((fun k => sE cI cZ cII cIII h0 (18 + k) (fun x => iZ (sI (18 + k) x))) 0))) H := hP
  refine va_putF (D := (dC, dI)) (ci := 3) (v := .ref ((h0 + 18) + 18)) (ty := .array .int) (C := RX3) (T := TX3) (N := 5) hx hb hts inG3 tyX3 tyX3_ok nmX3 hown hK hP (fl_D (hAD 19 (by decide))) hS 0 (cwb_get (by decide)) rfl 1 (by decide) (hts _ k131) (fun _ h9 => h9) rfl hin rfl (by decide +kernel) rfl rfl (Nat.le_of_ble_eq_true rfl) dX3_init_22 (fun H locs hP _ hS => ?_)
  have hP : va_P (dC, dI) vwCl (fl (h0 + 18) 19 (cwb (fun k => sE cI cZ cII cIII h0 (18 + k) (fun x => iZ (sI (18 + k) x))) 3 [.ref ((h0 + 18) + 1), .ref ((h0 + 18) + 18), .null, .int 0, .int 0] 0 ((fun k => sE cI cZ cII cIII h0 (18 + k) (fun x => iZ (sI (18 + k) x))) 0))) H := cwb_setP hP
  refine lv_aload_n hx hb dX3_init_25 rfl (lv_at hl 0 rfl) ?_
  refine lv_bipush (v := iZ 16) hx hb dX3_init_26 rfl ?_
  refine cz_new (atype := .int) (n := 19) (cA := cI) (N' := 16) (a0 := (16, .inl (fun _ => 0))) hx hb (hts _ k65) f1 hP (by decide) (by (first | ((try clear hAD); (try clear f2); (try clear f1); (try clear hin); (try clear hT0); (try clear s₁); omega) | omega)) hS ((cwb_n (by decide) (by decide)).trans ((congrArg (sE cI cZ cII cIII h0 37) (sI_z (by decide))).trans (sE_37 _))) (fun _ => rfl) (by decide +kernel) (by decide +kernel) (Nat.le_of_ble_eq_true rfl) (Nat.le_of_ble_eq_true rfl) (Nat.le_of_ble_eq_true rfl) dX3_init_28 (fun H hP hS => ?_)
  refine W.widen (k := 19) (n := 17648) (by (first | ((try clear hAD); (try clear f2); (try clear f1); (try clear hin); (try clear hT0); (try clear hsz); (try clear s₁); omega) | omega)) (by (first | ((try clear hAD); (try clear f2); (try clear f1); (try clear hin); (try clear hT0); (try clear hsz); (try clear s₁); omega) | omega)) ?_
  have hP : va_P (dC, dI) vwCl (fl (h0 + 18) 20 (cwb (fun k => sE cI cZ cII cIII h0 (18 + k) (fun x => iZ (sI (18 + k) x))) 3 [.ref ((h0 + 18) + 1), .ref ((h0 + 18) + 18), .null, .int 0, .int 0] 0 ((fun k => sE cI cZ cII cIII h0 (18 + k) (fun x => iZ (sI (18 + k) x))) 0))) H := hP
  refine va_putF (D := (dC, dI)) (ci := 3) (v := .ref ((h0 + 18) + 19)) (ty := .array .int) (C := RX3) (T := TX3) (N := 5) hx hb hts inG3 tyX3 tyX3_ok nmX3 hown hK hP (fl_D (hAD 20 (by decide))) hS 0 (cwb_get (by decide)) rfl 2 (by decide) (hts _ k132) (fun _ h9 => h9) rfl hin rfl (by decide +kernel) rfl rfl (Nat.le_of_ble_eq_true rfl) dX3_init_30 (fun H locs hP _ hS => ?_)
  have hP : va_P (dC, dI) vwCl (fl (h0 + 18) 20 (cwb (fun k => sE cI cZ cII cIII h0 (18 + k) (fun x => iZ (sI (18 + k) x))) 3 [.ref ((h0 + 18) + 1), .ref ((h0 + 18) + 18), .ref ((h0 + 18) + 19), .int 0, .int 0] 0 ((fun k => sE cI cZ cII cIII h0 (18 + k) (fun x => iZ (sI (18 + k) x))) 0))) H := cwb_setP hP
  refine lv_aload_n hx hb dX3_init_33 rfl (lv_at hl 0 rfl) ?_
  refine lv_iconst (v := iZ 0) hx hb dX3_init_34 rfl ?_
  refine va_put (D := (dC, dI)) (ci := 3) (v := .int (iZ 0)) (ty := .int) (C := RX3) (T := TX3) (N := 5) hx hb hts inG3 tyX3 tyX3_ok nmX3 hown hK hP (fl_D (hAD 20 (by decide))) hS 0 (cwb_get (by decide)) rfl 3 (by decide) (hts _ k133) (fun _ h9 => h9) rfl (by decide +kernel) rfl rfl (Nat.le_of_ble_eq_true rfl) dX3_init_35 (fun H locs hP _ hS => ?_)
  have hP : va_P (dC, dI) vwCl (fl (h0 + 18) 20 (cwb (fun k => sE cI cZ cII cIII h0 (18 + k) (fun x => iZ (sI (18 + k) x))) 3 [.ref ((h0 + 18) + 1), .ref ((h0 + 18) + 18), .ref ((h0 + 18) + 19), .int (iZ 0), .int 0] 0 ((fun k => sE cI cZ cII cIII h0 (18 + k) (fun x => iZ (sI (18 + k) x))) 0))) H := cwb_setP hP
  refine lv_aload_n hx hb dX3_init_38 rfl (lv_at hl 0 rfl) ?_
  refine lv_iconst (v := iZ 0) hx hb dX3_init_39 rfl ?_
  refine va_put (D := (dC, dI)) (ci := 3) (v := .int (iZ 0)) (ty := .int) (C := RX3) (T := TX3) (N := 5) hx hb hts inG3 tyX3 tyX3_ok nmX3 hown hK hP (fl_D (hAD 20 (by decide))) hS 0 (cwb_get (by decide)) rfl 4 (by decide) (hts _ k134) (fun _ h9 => h9) rfl (by decide +kernel) rfl rfl (Nat.le_of_ble_eq_true rfl) dX3_init_40 (fun H locs hP _ hS => ?_)
  have hP : va_P (dC, dI) vwCl (fl (h0 + 18) 20 (cwb (fun k => sE cI cZ cII cIII h0 (18 + k) (fun x => iZ (sI (18 + k) x))) 3 [.ref ((h0 + 18) + 1), .ref ((h0 + 18) + 18), .ref ((h0 + 18) + 19), .int (iZ 0), .int (iZ 0)] 0 ((fun k => sE cI cZ cII cIII h0 (18 + k) (fun x => iZ (sI (18 + k) x))) 0))) H := cwb_setP hP
  have hPf : va_P (dC, dI) vwCl (fl (h0 + 18) 20 (fun k => sE cI cZ cII cIII h0 (18 + k) (fun x => iZ (sI (18 + k) x)))) H := fl_eq hP (fun k hk => cwb_e (Rf := (fun k => sE cI cZ cII cIII h0 (18 + k) (fun x => iZ (sI (18 + k) x)))) (rfl) k)
  exact W.vret hx hb hr (fun t ht hW => ⟨⟨(), rfl, trivial, by rw [ht]; exact hPf, va_K.moved hW.alike hK⟩, hS.F ht⟩) hS.2.2 dX3_init_43
set_option maxHeartbeats 4000000 in
set_option maxRecDepth 100000 in
theorem k_Tidier (l : Launch) (dC : Nat → ClassId) (dI : Nat → Nat → Nat) (h0 : Nat) (cI cZ cII cIII : ClassId)  : Met l yX6_init (Cond.code yX6_init cX6_init 1 none :: wsG) ({ frames := 1, cells := 2, slots := 2202, locals := 14 } : Room) (va_Pc [.ref (h0 + 38)] (fun U => U.heap.size = (h0 + 38) + 1 ∧ va_P (dC, dI) vwCl (fl (h0 + 38) 1 (cwb (fun k => sE cI cZ cII cIII h0 (38 + k) (fun x => iZ (sI (38 + k) x))) 6 [.null, .null, .int 0, .int 0, .int 0, .int 0] 0 ((fun k => sE cI cZ cII cIII h0 (38 + k) (fun x => iZ (sI (38 + k) x))) 0))) U.heap ∧ va_K (dC, dI) vwCl (sT cI cZ cII cIII) U ∧ mu_T U)) (va_Qv (fun (_ : Unit) => True) (fun (_ : Unit) (t : State) => va_P (dC, dI) vwCl (fl (h0 + 38) 3 (fun k => sE cI cZ cII cIII h0 (38 + k) (fun x => iZ (sI (38 + k) x)))) t.heap ∧ va_K (dC, dI) vwCl (sT cI cZ cII cIII) t) (fA (h0 + 38) 3 ((h0 + 38) + 1))) 2 2202 (fA (h0 + 38) 3 ((h0 + 38) + 1)) := by
  refine Met.ofW (cc := cX6_init) (maxL := 1) (ret := none) (by decide) rfl ?_
  intro p e s m args below meth c s₁ B hml hv
  obtain ⟨rfl, hsz, hP, hK, hT0⟩ := hv
  have hx := B.exec
  have hb := B.bytes
  have hr := B.returns
  have hts : ∀ w ∈ wsG, w.before _ s = true := hG_of (atoms_spec (ws := (Cond.code yX6_init cX6_init 1 none :: wsG)) B.pre)
  have hown : s.vm.findClass RX6 = some m.cls := findClass_of_methodNamed B.named
  have hlocks := B.notSynchronized
  have hin : meth.name = "<init>" := (name_of_methodNamed B.named B.method).1
  have f1 := va_RA_int (hK.2 0 _ rfl).2
  have f2 := va_RA_int2 (hK.2 2 _ rfl).2
  have hS : va_S (fA (h0 + 38) 3 ((h0 + 38) + 1)) s.heap s.heap [] := va_S.rf
  have hAD : ∀ n, n ≤ 3 → ∀ k, k < n → (fA (h0 + 38) 3 ((h0 + 38) + 1)) ((h0 + 38) + k) := fun n hn k hk => fA_in k (Nat.lt_of_lt_of_le hk hn)
  have hl := lv_entry ([.ref (h0 + 38)]) (n := 1) (Nat.le_of_ble_eq_true rfl)
  rw [lg_entry_eq]
  generalize (lg_sl ([.ref (h0 + 38)]) ++ List.replicate (1 - (lg_sl ([.ref (h0 + 38)])).length) Slot.unset).toArray = ls at hl ⊢
  have hl : lv_has ls 1 [(0, .ref (h0 + 38))] := hl
  refine lv_aload_n hx hb dX6_init_0 rfl (lv_at hl 0 rfl) ?_
  refine W.objInit hx hb hown (hts _ k152) (hts _ k27) (hts _ k28) rfl (by rw [hml]; exact hl.1) rfl dX6_init_1 (Nat.le_of_ble_eq_true rfl) (Nat.le_of_ble_eq_true rfl) ?_
  refine W.eq (g2 := F0 m 4 ls []) rfl ?_
  refine lv_aload_n hx hb dX6_init_4 rfl (lv_at hl 0 rfl) ?_
  refine lv_sipush (v := iZ 1101) hx hb dX6_init_5 rfl ?_
  refine cz_new (atype := .int) (n := 1) (cA := cI) (N' := 1101) (a0 := (1101, .inl (fun _ => 0))) hx hb (hts _ k65) f1 hP (by decide) (by (first | ((try clear hAD); (try clear f2); (try clear f1); (try clear hin); (try clear hT0); (try clear s₁); omega) | omega)) hS ((cwb_n (by decide) (by decide)).trans ((congrArg (sE cI cZ cII cIII h0 39) (sI_z (by decide))).trans (sE_39 _))) (fun _ => rfl) (by decide +kernel) (by decide +kernel) (Nat.le_of_ble_eq_true rfl) (Nat.le_of_ble_eq_true rfl) (Nat.le_of_ble_eq_true rfl) dX6_init_8 (fun H hP hS => ?_)
  refine W.widen (k := 1) (n := 1101) (by (first | ((try clear hAD); (try clear f2); (try clear f1); (try clear hin); (try clear hT0); (try clear hsz); (try clear s₁); omega) | omega)) (by (first | ((try clear hAD); (try clear f2); (try clear f1); (try clear hin); (try clear hT0); (try clear hsz); (try clear s₁); omega) | omega)) ?_
  have hP : va_P (dC, dI) vwCl (fl (h0 + 38) 2 (cwb (fun k => sE cI cZ cII cIII h0 (38 + k) (fun x => iZ (sI (38 + k) x))) 6 [.null, .null, .int 0, .int 0, .int 0, .int 0] 0 ((fun k => sE cI cZ cII cIII h0 (38 + k) (fun x => iZ (sI (38 + k) x))) 0))) H := hP
  refine va_putF (D := (dC, dI)) (ci := 6) (v := .ref ((h0 + 38) + 1)) (ty := .array .int) (C := RX6) (T := TX6) (N := 6) hx hb hts inG6 tyX6 tyX6_ok nmX6 hown hK hP (fl_D (hAD 2 (by decide))) hS 0 (cwb_get (by decide)) rfl 0 (by decide) (hts _ k153) (fun _ h9 => h9) rfl hin rfl (by decide +kernel) rfl rfl (Nat.le_of_ble_eq_true rfl) dX6_init_10 (fun H locs hP _ hS => ?_)
  have hP : va_P (dC, dI) vwCl (fl (h0 + 38) 2 (cwb (fun k => sE cI cZ cII cIII h0 (38 + k) (fun x => iZ (sI (38 + k) x))) 6 [.ref ((h0 + 38) + 1), .null, .int 0, .int 0, .int 0, .int 0] 0 ((fun k => sE cI cZ cII cIII h0 (38 + k) (fun x => iZ (sI (38 + k) x))) 0))) H := cwb_setP hP
  refine lv_aload_n hx hb dX6_init_13 rfl (lv_at hl 0 rfl) ?_
  refine lv_sipush (v := iZ 1101) hx hb dX6_init_14 rfl ?_
  refine cz_new (atype := .int) (n := 2) (cA := cI) (N' := 1101) (a0 := (1101, .inl (fun _ => 0))) hx hb (hts _ k65) f1 hP (by decide) (by (first | ((try clear hAD); (try clear f2); (try clear f1); (try clear hin); (try clear hT0); (try clear s₁); omega) | omega)) hS ((cwb_n (by decide) (by decide)).trans ((congrArg (sE cI cZ cII cIII h0 40) (sI_z (by decide))).trans (sE_40 _))) (fun _ => rfl) (by decide +kernel) (by decide +kernel) (Nat.le_of_ble_eq_true rfl) (Nat.le_of_ble_eq_true rfl) (Nat.le_of_ble_eq_true rfl) dX6_init_17 (fun H hP hS => ?_)
  refine W.widen (k := 2) (n := 2202) (by (first | ((try clear hAD); (try clear f2); (try clear f1); (try clear hin); (try clear hT0); (try clear hsz); (try clear s₁); omega) | omega)) (by (first | ((try clear hAD); (try clear f2); (try clear f1); (try clear hin); (try clear hT0); (try clear hsz); (try clear s₁); omega) | omega)) ?_
  have hP : va_P (dC, dI) vwCl (fl (h0 + 38) 3 (cwb (fun k => sE cI cZ cII cIII h0 (38 + k) (fun x => iZ (sI (38 + k) x))) 6 [.ref ((h0 + 38) + 1), .null, .int 0, .int 0, .int 0, .int 0] 0 ((fun k => sE cI cZ cII cIII h0 (38 + k) (fun x => iZ (sI (38 + k) x))) 0))) H := hP
  refine va_putF (D := (dC, dI)) (ci := 6) (v := .ref ((h0 + 38) + 2)) (ty := .array .int) (C := RX6) (T := TX6) (N := 6) hx hb hts inG6 tyX6 tyX6_ok nmX6 hown hK hP (fl_D (hAD 3 (by decide))) hS 0 (cwb_get (by decide)) rfl 1 (by decide) (hts _ k154) (fun _ h9 => h9) rfl hin rfl (by decide +kernel) rfl rfl (Nat.le_of_ble_eq_true rfl) dX6_init_19 (fun H locs hP _ hS => ?_)
  have hP : va_P (dC, dI) vwCl (fl (h0 + 38) 3 (cwb (fun k => sE cI cZ cII cIII h0 (38 + k) (fun x => iZ (sI (38 + k) x))) 6 [.ref ((h0 + 38) + 1), .ref ((h0 + 38) + 2), .int 0, .int 0, .int 0, .int 0] 0 ((fun k => sE cI cZ cII cIII h0 (38 + k) (fun x => iZ (sI (38 + k) x))) 0))) H := cwb_setP hP
  refine lv_aload_n hx hb dX6_init_22 rfl (lv_at hl 0 rfl) ?_
  refine lv_iconst (v := iZ 0) hx hb dX6_init_23 rfl ?_
  refine va_put (D := (dC, dI)) (ci := 6) (v := .int (iZ 0)) (ty := .int) (C := RX6) (T := TX6) (N := 6) hx hb hts inG6 tyX6 tyX6_ok nmX6 hown hK hP (fl_D (hAD 3 (by decide))) hS 0 (cwb_get (by decide)) rfl 2 (by decide) (hts _ k155) (fun _ h9 => h9) rfl (by decide +kernel) rfl rfl (Nat.le_of_ble_eq_true rfl) dX6_init_24 (fun H locs hP _ hS => ?_)
  have hP : va_P (dC, dI) vwCl (fl (h0 + 38) 3 (cwb (fun k => sE cI cZ cII cIII h0 (38 + k) (fun x => iZ (sI (38 + k) x))) 6 [.ref ((h0 + 38) + 1), .ref ((h0 + 38) + 2), .int (iZ 0), .int 0, .int 0, .int 0] 0 ((fun k => sE cI cZ cII cIII h0 (38 + k) (fun x => iZ (sI (38 + k) x))) 0))) H := cwb_setP hP
  refine lv_aload_n hx hb dX6_init_27 rfl (lv_at hl 0 rfl) ?_
  refine lv_iconst (v := iZ 0) hx hb dX6_init_28 rfl ?_
  refine va_put (D := (dC, dI)) (ci := 6) (v := .int (iZ 0)) (ty := .int) (C := RX6) (T := TX6) (N := 6) hx hb hts inG6 tyX6 tyX6_ok nmX6 hown hK hP (fl_D (hAD 3 (by decide))) hS 0 (cwb_get (by decide)) rfl 3 (by decide) (hts _ k156) (fun _ h9 => h9) rfl (by decide +kernel) rfl rfl (Nat.le_of_ble_eq_true rfl) dX6_init_29 (fun H locs hP _ hS => ?_)
  have hP : va_P (dC, dI) vwCl (fl (h0 + 38) 3 (cwb (fun k => sE cI cZ cII cIII h0 (38 + k) (fun x => iZ (sI (38 + k) x))) 6 [.ref ((h0 + 38) + 1), .ref ((h0 + 38) + 2), .int (iZ 0), .int (iZ 0), .int 0, .int 0] 0 ((fun k => sE cI cZ cII cIII h0 (38 + k) (fun x => iZ (sI (38 + k) x))) 0))) H := cwb_setP hP
  refine lv_aload_n hx hb dX6_init_32 rfl (lv_at hl 0 rfl) ?_
  refine lv_iconst (v := iZ 0) hx hb dX6_init_33 rfl ?_
  refine va_put (D := (dC, dI)) (ci := 6) (v := .int (iZ 0)) (ty := .int) (C := RX6) (T := TX6) (N := 6) hx hb hts inG6 tyX6 tyX6_ok nmX6 hown hK hP (fl_D (hAD 3 (by decide))) hS 0 (cwb_get (by decide)) rfl 4 (by decide) (hts _ k158) (fun _ h9 => h9) rfl (by decide +kernel) rfl rfl (Nat.le_of_ble_eq_true rfl) dX6_init_34 (fun H locs hP _ hS => ?_)
  have hP : va_P (dC, dI) vwCl (fl (h0 + 38) 3 (cwb (fun k => sE cI cZ cII cIII h0 (38 + k) (fun x => iZ (sI (38 + k) x))) 6 [.ref ((h0 + 38) + 1), .ref ((h0 + 38) + 2), .int (iZ 0), .int (iZ 0), .int (iZ 0), .int 0] 0 ((fun k => sE cI cZ cII cIII h0 (38 + k) (fun x => iZ (sI (38 + k) x))) 0))) H := cwb_setP hP
  refine lv_aload_n hx hb dX6_init_37 rfl (lv_at hl 0 rfl) ?_
  refine lv_iconst (v := iZ 0) hx hb dX6_init_38 rfl ?_
  refine va_put (D := (dC, dI)) (ci := 6) (v := .int (iZ 0)) (ty := .int) (C := RX6) (T := TX6) (N := 6) hx hb hts inG6 tyX6 tyX6_ok nmX6 hown hK hP (fl_D (hAD 3 (by decide))) hS 0 (cwb_get (by decide)) rfl 5 (by decide) (hts _ k160) (fun _ h9 => h9) rfl (by decide +kernel) rfl rfl (Nat.le_of_ble_eq_true rfl) dX6_init_39 (fun H locs hP _ hS => ?_)
  have hP : va_P (dC, dI) vwCl (fl (h0 + 38) 3 (cwb (fun k => sE cI cZ cII cIII h0 (38 + k) (fun x => iZ (sI (38 + k) x))) 6 [.ref ((h0 + 38) + 1), .ref ((h0 + 38) + 2), .int (iZ 0), .int (iZ 0), .int (iZ 0), .int (iZ 0)] 0 ((fun k => sE cI cZ cII cIII h0 (38 + k) (fun x => iZ (sI (38 + k) x))) 0))) H := cwb_setP hP
  have hPf : va_P (dC, dI) vwCl (fl (h0 + 38) 3 (fun k => sE cI cZ cII cIII h0 (38 + k) (fun x => iZ (sI (38 + k) x)))) H := fl_eq hP (fun k hk => cwb_e (Rf := (fun k => sE cI cZ cII cIII h0 (38 + k) (fun x => iZ (sI (38 + k) x)))) (rfl) k)
  exact W.vret hx hb hr (fun t ht hW => ⟨⟨(), rfl, trivial, by rw [ht]; exact hPf, va_K.moved hW.alike hK⟩, hS.F ht⟩) hS.2.2 dX6_init_42
set_option maxHeartbeats 4000000 in
set_option maxRecDepth 100000 in
theorem k_Layer (l : Launch) (dC : Nat → ClassId) (dI : Nat → Nat → Nat) (h0 : Nat) (cI cZ cII cIII : ClassId)  : Met l yX0_init (Cond.code yX0_init cX0_init 1 none :: wsG) ({ frames := 1, cells := 3, slots := 108999, locals := 14 } : Room) (va_Pc [.ref (h0 + 41)] (fun U => U.heap.size = (h0 + 41) + 1 ∧ va_P (dC, dI) vwCl (fl (h0 + 41) 1 (cwb (fun k => sE cI cZ cII cIII h0 (41 + k) (fun x => iZ (sI (41 + k) x))) 0 [.null, .null, .null, .int 0, .int 0, .int 0, .int 0] 0 ((fun k => sE cI cZ cII cIII h0 (41 + k) (fun x => iZ (sI (41 + k) x))) 0))) U.heap ∧ va_K (dC, dI) vwCl (sT cI cZ cII cIII) U ∧ mu_T U)) (va_Qv (fun (_ : Unit) => True) (fun (_ : Unit) (t : State) => va_P (dC, dI) vwCl (fl (h0 + 41) 4 (fun k => sE cI cZ cII cIII h0 (41 + k) (fun x => iZ (sI (41 + k) x)))) t.heap ∧ va_K (dC, dI) vwCl (sT cI cZ cII cIII) t) (fA (h0 + 41) 4 ((h0 + 41) + 1))) 3 108999 (fA (h0 + 41) 4 ((h0 + 41) + 1)) := by
  refine Met.ofW (cc := cX0_init) (maxL := 1) (ret := none) (by decide) rfl ?_
  intro p e s m args below meth c s₁ B hml hv
  obtain ⟨rfl, hsz, hP, hK, hT0⟩ := hv
  have hx := B.exec
  have hb := B.bytes
  have hr := B.returns
  have hts : ∀ w ∈ wsG, w.before _ s = true := hG_of (atoms_spec (ws := (Cond.code yX0_init cX0_init 1 none :: wsG)) B.pre)
  have hown : s.vm.findClass RX0 = some m.cls := findClass_of_methodNamed B.named
  have hlocks := B.notSynchronized
  have hin : meth.name = "<init>" := (name_of_methodNamed B.named B.method).1
  have f1 := va_RA_int (hK.2 0 _ rfl).2
  have f2 := va_RA_int2 (hK.2 2 _ rfl).2
  have hS : va_S (fA (h0 + 41) 4 ((h0 + 41) + 1)) s.heap s.heap [] := va_S.rf
  have hAD : ∀ n, n ≤ 4 → ∀ k, k < n → (fA (h0 + 41) 4 ((h0 + 41) + 1)) ((h0 + 41) + k) := fun n hn k hk => fA_in k (Nat.lt_of_lt_of_le hk hn)
  have hl := lv_entry ([.ref (h0 + 41)]) (n := 1) (Nat.le_of_ble_eq_true rfl)
  rw [lg_entry_eq]
  generalize (lg_sl ([.ref (h0 + 41)]) ++ List.replicate (1 - (lg_sl ([.ref (h0 + 41)])).length) Slot.unset).toArray = ls at hl ⊢
  have hl : lv_has ls 1 [(0, .ref (h0 + 41))] := hl
  refine lv_aload_n hx hb dX0_init_0 rfl (lv_at hl 0 rfl) ?_
  refine W.objInit hx hb hown (hts _ k180) (hts _ k27) (hts _ k28) rfl (by rw [hml]; exact hl.1) rfl dX0_init_1 (Nat.le_of_ble_eq_true rfl) (Nat.le_of_ble_eq_true rfl) ?_
  refine W.eq (g2 := F0 m 4 ls []) rfl ?_
  refine lv_aload_n hx hb dX0_init_4 rfl (lv_at hl 0 rfl) ?_
  refine lv_ldc (v := iZ 106797) hx hb hown (hts _ k181) dX0_init_5 ?_
  refine cz_new (atype := .int) (n := 1) (cA := cI) (N' := 106797) (a0 := (106797, .inl (fun _ => 0))) hx hb (hts _ k65) f1 hP (by decide) (by (first | ((try clear hAD); (try clear f2); (try clear f1); (try clear hin); (try clear hT0); (try clear s₁); omega) | omega)) hS ((cwb_n (by decide) (by decide)).trans ((congrArg (sE cI cZ cII cIII h0 42) (sI_z (by decide))).trans (sE_42 _))) (fun _ => rfl) (by decide +kernel) (by decide +kernel) (Nat.le_of_ble_eq_true rfl) (Nat.le_of_ble_eq_true rfl) (Nat.le_of_ble_eq_true rfl) dX0_init_7 (fun H hP hS => ?_)
  refine W.widen (k := 1) (n := 106797) (by (first | ((try clear hAD); (try clear f2); (try clear f1); (try clear hin); (try clear hT0); (try clear hsz); (try clear s₁); omega) | omega)) (by (first | ((try clear hAD); (try clear f2); (try clear f1); (try clear hin); (try clear hT0); (try clear hsz); (try clear s₁); omega) | omega)) ?_
  have hP : va_P (dC, dI) vwCl (fl (h0 + 41) 2 (cwb (fun k => sE cI cZ cII cIII h0 (41 + k) (fun x => iZ (sI (41 + k) x))) 0 [.null, .null, .null, .int 0, .int 0, .int 0, .int 0] 0 ((fun k => sE cI cZ cII cIII h0 (41 + k) (fun x => iZ (sI (41 + k) x))) 0))) H := hP
  refine va_putF (D := (dC, dI)) (ci := 0) (v := .ref ((h0 + 41) + 1)) (ty := .array .int) (C := RX0) (T := TX0) (N := 7) hx hb hts inG0 tyX0 tyX0_ok nmX0 hown hK hP (fl_D (hAD 2 (by decide))) hS 0 (cwb_get (by decide)) rfl 0 (by decide) (hts _ k182) (fun _ h9 => h9) rfl hin rfl (by decide +kernel) rfl rfl (Nat.le_of_ble_eq_true rfl) dX0_init_9 (fun H locs hP _ hS => ?_)
  have hP : va_P (dC, dI) vwCl (fl (h0 + 41) 2 (cwb (fun k => sE cI cZ cII cIII h0 (41 + k) (fun x => iZ (sI (41 + k) x))) 0 [.ref ((h0 + 41) + 1), .null, .null, .int 0, .int 0, .int 0, .int 0] 0 ((fun k => sE cI cZ cII cIII h0 (41 + k) (fun x => iZ (sI (41 + k) x))) 0))) H := cwb_setP hP
  refine lv_aload_n hx hb dX0_init_12 rfl (lv_at hl 0 rfl) ?_
  refine lv_sipush (v := iZ 1101) hx hb dX0_init_13 rfl ?_
  refine cz_new (atype := .int) (n := 2) (cA := cI) (N' := 1101) (a0 := (1101, .inl (fun _ => 0))) hx hb (hts _ k65) f1 hP (by decide) (by (first | ((try clear hAD); (try clear f2); (try clear f1); (try clear hin); (try clear hT0); (try clear s₁); omega) | omega)) hS ((cwb_n (by decide) (by decide)).trans ((congrArg (sE cI cZ cII cIII h0 43) (sI_z (by decide))).trans (sE_43 _))) (fun _ => rfl) (by decide +kernel) (by decide +kernel) (Nat.le_of_ble_eq_true rfl) (Nat.le_of_ble_eq_true rfl) (Nat.le_of_ble_eq_true rfl) dX0_init_16 (fun H hP hS => ?_)
  refine W.widen (k := 2) (n := 107898) (by (first | ((try clear hAD); (try clear f2); (try clear f1); (try clear hin); (try clear hT0); (try clear hsz); (try clear s₁); omega) | omega)) (by (first | ((try clear hAD); (try clear f2); (try clear f1); (try clear hin); (try clear hT0); (try clear hsz); (try clear s₁); omega) | omega)) ?_
  have hP : va_P (dC, dI) vwCl (fl (h0 + 41) 3 (cwb (fun k => sE cI cZ cII cIII h0 (41 + k) (fun x => iZ (sI (41 + k) x))) 0 [.ref ((h0 + 41) + 1), .null, .null, .int 0, .int 0, .int 0, .int 0] 0 ((fun k => sE cI cZ cII cIII h0 (41 + k) (fun x => iZ (sI (41 + k) x))) 0))) H := hP
  refine va_putF (D := (dC, dI)) (ci := 0) (v := .ref ((h0 + 41) + 2)) (ty := .array .int) (C := RX0) (T := TX0) (N := 7) hx hb hts inG0 tyX0 tyX0_ok nmX0 hown hK hP (fl_D (hAD 3 (by decide))) hS 0 (cwb_get (by decide)) rfl 1 (by decide) (hts _ k183) (fun _ h9 => h9) rfl hin rfl (by decide +kernel) rfl rfl (Nat.le_of_ble_eq_true rfl) dX0_init_18 (fun H locs hP _ hS => ?_)
  have hP : va_P (dC, dI) vwCl (fl (h0 + 41) 3 (cwb (fun k => sE cI cZ cII cIII h0 (41 + k) (fun x => iZ (sI (41 + k) x))) 0 [.ref ((h0 + 41) + 1), .ref ((h0 + 41) + 2), .null, .int 0, .int 0, .int 0, .int 0] 0 ((fun k => sE cI cZ cII cIII h0 (41 + k) (fun x => iZ (sI (41 + k) x))) 0))) H := cwb_setP hP
  refine lv_aload_n hx hb dX0_init_21 rfl (lv_at hl 0 rfl) ?_
  refine lv_sipush (v := iZ 1101) hx hb dX0_init_22 rfl ?_
  refine cz_new (atype := .int) (n := 3) (cA := cI) (N' := 1101) (a0 := (1101, .inl (fun _ => 0))) hx hb (hts _ k65) f1 hP (by decide) (by (first | ((try clear hAD); (try clear f2); (try clear f1); (try clear hin); (try clear hT0); (try clear s₁); omega) | omega)) hS ((cwb_n (by decide) (by decide)).trans ((congrArg (sE cI cZ cII cIII h0 44) (sI_z (by decide))).trans (sE_44 _))) (fun _ => rfl) (by decide +kernel) (by decide +kernel) (Nat.le_of_ble_eq_true rfl) (Nat.le_of_ble_eq_true rfl) (Nat.le_of_ble_eq_true rfl) dX0_init_25 (fun H hP hS => ?_)
  refine W.widen (k := 3) (n := 108999) (by (first | ((try clear hAD); (try clear f2); (try clear f1); (try clear hin); (try clear hT0); (try clear hsz); (try clear s₁); omega) | omega)) (by (first | ((try clear hAD); (try clear f2); (try clear f1); (try clear hin); (try clear hT0); (try clear hsz); (try clear s₁); omega) | omega)) ?_
  have hP : va_P (dC, dI) vwCl (fl (h0 + 41) 4 (cwb (fun k => sE cI cZ cII cIII h0 (41 + k) (fun x => iZ (sI (41 + k) x))) 0 [.ref ((h0 + 41) + 1), .ref ((h0 + 41) + 2), .null, .int 0, .int 0, .int 0, .int 0] 0 ((fun k => sE cI cZ cII cIII h0 (41 + k) (fun x => iZ (sI (41 + k) x))) 0))) H := hP
  refine va_putF (D := (dC, dI)) (ci := 0) (v := .ref ((h0 + 41) + 3)) (ty := .array .int) (C := RX0) (T := TX0) (N := 7) hx hb hts inG0 tyX0 tyX0_ok nmX0 hown hK hP (fl_D (hAD 4 (by decide))) hS 0 (cwb_get (by decide)) rfl 2 (by decide) (hts _ k184) (fun _ h9 => h9) rfl hin rfl (by decide +kernel) rfl rfl (Nat.le_of_ble_eq_true rfl) dX0_init_27 (fun H locs hP _ hS => ?_)
  have hP : va_P (dC, dI) vwCl (fl (h0 + 41) 4 (cwb (fun k => sE cI cZ cII cIII h0 (41 + k) (fun x => iZ (sI (41 + k) x))) 0 [.ref ((h0 + 41) + 1), .ref ((h0 + 41) + 2), .ref ((h0 + 41) + 3), .int 0, .int 0, .int 0, .int 0] 0 ((fun k => sE cI cZ cII cIII h0 (41 + k) (fun x => iZ (sI (41 + k) x))) 0))) H := cwb_setP hP
  refine lv_aload_n hx hb dX0_init_30 rfl (lv_at hl 0 rfl) ?_
  refine lv_iconst (v := iZ 1) hx hb dX0_init_31 rfl ?_
  refine va_put (D := (dC, dI)) (ci := 0) (v := .int (iZ 1)) (ty := .int) (C := RX0) (T := TX0) (N := 7) hx hb hts inG0 tyX0 tyX0_ok nmX0 hown hK hP (fl_D (hAD 4 (by decide))) hS 0 (cwb_get (by decide)) rfl 3 (by decide) (hts _ k185) (fun _ h9 => h9) rfl (by decide +kernel) rfl rfl (Nat.le_of_ble_eq_true rfl) dX0_init_32 (fun H locs hP _ hS => ?_)
  have hP : va_P (dC, dI) vwCl (fl (h0 + 41) 4 (cwb (fun k => sE cI cZ cII cIII h0 (41 + k) (fun x => iZ (sI (41 + k) x))) 0 [.ref ((h0 + 41) + 1), .ref ((h0 + 41) + 2), .ref ((h0 + 41) + 3), .int (iZ 1), .int 0, .int 0, .int 0] 0 ((fun k => sE cI cZ cII cIII h0 (41 + k) (fun x => iZ (sI (41 + k) x))) 0))) H := cwb_setP hP
  refine lv_aload_n hx hb dX0_init_35 rfl (lv_at hl 0 rfl) ?_
  refine lv_iconst (v := iZ 0) hx hb dX0_init_36 rfl ?_
  refine va_put (D := (dC, dI)) (ci := 0) (v := .int (iZ 0)) (ty := .int) (C := RX0) (T := TX0) (N := 7) hx hb hts inG0 tyX0 tyX0_ok nmX0 hown hK hP (fl_D (hAD 4 (by decide))) hS 0 (cwb_get (by decide)) rfl 4 (by decide) (hts _ k186) (fun _ h9 => h9) rfl (by decide +kernel) rfl rfl (Nat.le_of_ble_eq_true rfl) dX0_init_37 (fun H locs hP _ hS => ?_)
  have hP : va_P (dC, dI) vwCl (fl (h0 + 41) 4 (cwb (fun k => sE cI cZ cII cIII h0 (41 + k) (fun x => iZ (sI (41 + k) x))) 0 [.ref ((h0 + 41) + 1), .ref ((h0 + 41) + 2), .ref ((h0 + 41) + 3), .int (iZ 1), .int (iZ 0), .int 0, .int 0] 0 ((fun k => sE cI cZ cII cIII h0 (41 + k) (fun x => iZ (sI (41 + k) x))) 0))) H := cwb_setP hP
  refine lv_aload_n hx hb dX0_init_40 rfl (lv_at hl 0 rfl) ?_
  refine lv_iconst (v := iZ 0) hx hb dX0_init_41 rfl ?_
  refine va_put (D := (dC, dI)) (ci := 0) (v := .int (iZ 0)) (ty := .int) (C := RX0) (T := TX0) (N := 7) hx hb hts inG0 tyX0 tyX0_ok nmX0 hown hK hP (fl_D (hAD 4 (by decide))) hS 0 (cwb_get (by decide)) rfl 5 (by decide) (hts _ k187) (fun _ h9 => h9) rfl (by decide +kernel) rfl rfl (Nat.le_of_ble_eq_true rfl) dX0_init_42 (fun H locs hP _ hS => ?_)
  have hP : va_P (dC, dI) vwCl (fl (h0 + 41) 4 (cwb (fun k => sE cI cZ cII cIII h0 (41 + k) (fun x => iZ (sI (41 + k) x))) 0 [.ref ((h0 + 41) + 1), .ref ((h0 + 41) + 2), .ref ((h0 + 41) + 3), .int (iZ 1), .int (iZ 0), .int (iZ 0), .int 0] 0 ((fun k => sE cI cZ cII cIII h0 (41 + k) (fun x => iZ (sI (41 + k) x))) 0))) H := cwb_setP hP
  refine lv_aload_n hx hb dX0_init_45 rfl (lv_at hl 0 rfl) ?_
  refine lv_iconst (v := iZ 0) hx hb dX0_init_46 rfl ?_
  refine va_put (D := (dC, dI)) (ci := 0) (v := .int (iZ 0)) (ty := .int) (C := RX0) (T := TX0) (N := 7) hx hb hts inG0 tyX0 tyX0_ok nmX0 hown hK hP (fl_D (hAD 4 (by decide))) hS 0 (cwb_get (by decide)) rfl 6 (by decide) (hts _ k188) (fun _ h9 => h9) rfl (by decide +kernel) rfl rfl (Nat.le_of_ble_eq_true rfl) dX0_init_47 (fun H locs hP _ hS => ?_)
  have hP : va_P (dC, dI) vwCl (fl (h0 + 41) 4 (cwb (fun k => sE cI cZ cII cIII h0 (41 + k) (fun x => iZ (sI (41 + k) x))) 0 [.ref ((h0 + 41) + 1), .ref ((h0 + 41) + 2), .ref ((h0 + 41) + 3), .int (iZ 1), .int (iZ 0), .int (iZ 0), .int (iZ 0)] 0 ((fun k => sE cI cZ cII cIII h0 (41 + k) (fun x => iZ (sI (41 + k) x))) 0))) H := cwb_setP hP
  have hPf : va_P (dC, dI) vwCl (fl (h0 + 41) 4 (fun k => sE cI cZ cII cIII h0 (41 + k) (fun x => iZ (sI (41 + k) x)))) H := fl_eq hP (fun k hk => cwb_e (Rf := (fun k => sE cI cZ cII cIII h0 (41 + k) (fun x => iZ (sI (41 + k) x)))) (rfl) k)
  exact W.vret hx hb hr (fun t ht hW => ⟨⟨(), rfl, trivial, by rw [ht]; exact hPf, va_K.moved hW.alike hK⟩, hS.F ht⟩) hS.2.2 dX0_init_50
set_option maxHeartbeats 4000000 in
set_option maxRecDepth 100000 in
theorem k_Walker (l : Launch) (dC : Nat → ClassId) (dI : Nat → Nat → Nat) (h0 : Nat) (cI cZ cII cIII : ClassId)  : Met l yX8_init (Cond.code yX8_init cX8_init 1 none :: wsG) ({ frames := 1, cells := 2, slots := 68262, locals := 14 } : Room) (va_Pc [.ref (h0 + 45)] (fun U => U.heap.size = (h0 + 45) + 1 ∧ va_P (dC, dI) vwCl (fl (h0 + 45) 1 (cwb (fun k => sE cI cZ cII cIII h0 (45 + k) (fun x => iZ (sI (45 + k) x))) 8 [.null, .null] 0 ((fun k => sE cI cZ cII cIII h0 (45 + k) (fun x => iZ (sI (45 + k) x))) 0))) U.heap ∧ va_K (dC, dI) vwCl (sT cI cZ cII cIII) U ∧ mu_T U)) (va_Qv (fun (_ : Unit) => True) (fun (_ : Unit) (t : State) => va_P (dC, dI) vwCl (fl (h0 + 45) 3 (fun k => sE cI cZ cII cIII h0 (45 + k) (fun x => iZ (sI (45 + k) x)))) t.heap ∧ va_K (dC, dI) vwCl (sT cI cZ cII cIII) t) (fA (h0 + 45) 3 ((h0 + 45) + 1))) 2 68262 (fA (h0 + 45) 3 ((h0 + 45) + 1)) := by
  refine Met.ofW (cc := cX8_init) (maxL := 1) (ret := none) (by decide) rfl ?_
  intro p e s m args below meth c s₁ B hml hv
  obtain ⟨rfl, hsz, hP, hK, hT0⟩ := hv
  have hx := B.exec
  have hb := B.bytes
  have hr := B.returns
  have hts : ∀ w ∈ wsG, w.before _ s = true := hG_of (atoms_spec (ws := (Cond.code yX8_init cX8_init 1 none :: wsG)) B.pre)
  have hown : s.vm.findClass RX8 = some m.cls := findClass_of_methodNamed B.named
  have hlocks := B.notSynchronized
  have hin : meth.name = "<init>" := (name_of_methodNamed B.named B.method).1
  have f1 := va_RA_int (hK.2 0 _ rfl).2
  have f2 := va_RA_int2 (hK.2 2 _ rfl).2
  have hS : va_S (fA (h0 + 45) 3 ((h0 + 45) + 1)) s.heap s.heap [] := va_S.rf
  have hAD : ∀ n, n ≤ 3 → ∀ k, k < n → (fA (h0 + 45) 3 ((h0 + 45) + 1)) ((h0 + 45) + k) := fun n hn k hk => fA_in k (Nat.lt_of_lt_of_le hk hn)
  have hl := lv_entry ([.ref (h0 + 45)]) (n := 1) (Nat.le_of_ble_eq_true rfl)
  rw [lg_entry_eq]
  generalize (lg_sl ([.ref (h0 + 45)]) ++ List.replicate (1 - (lg_sl ([.ref (h0 + 45)])).length) Slot.unset).toArray = ls at hl ⊢
  have hl : lv_has ls 1 [(0, .ref (h0 + 45))] := hl
  refine lv_aload_n hx hb dX8_init_0 rfl (lv_at hl 0 rfl) ?_
  refine W.objInit hx hb hown (hts _ k209) (hts _ k27) (hts _ k28) rfl (by rw [hml]; exact hl.1) rfl dX8_init_1 (Nat.le_of_ble_eq_true rfl) (Nat.le_of_ble_eq_true rfl) ?_
  refine W.eq (g2 := F0 m 4 ls []) rfl ?_
  refine lv_aload_n hx hb dX8_init_4 rfl (lv_at hl 0 rfl) ?_
  refine lv_ldc (v := iZ 67161) hx hb hown (hts _ k210) dX8_init_5 ?_
  refine cz_new (atype := .int) (n := 1) (cA := cI) (N' := 67161) (a0 := (67161, .inl (fun _ => 0))) hx hb (hts _ k65) f1 hP (by decide) (by (first | ((try clear hAD); (try clear f2); (try clear f1); (try clear hin); (try clear hT0); (try clear s₁); omega) | omega)) hS ((cwb_n (by decide) (by decide)).trans ((congrArg (sE cI cZ cII cIII h0 46) (sI_z (by decide))).trans (sE_46 _))) (fun _ => rfl) (by decide +kernel) (by decide +kernel) (Nat.le_of_ble_eq_true rfl) (Nat.le_of_ble_eq_true rfl) (Nat.le_of_ble_eq_true rfl) dX8_init_7 (fun H hP hS => ?_)
  refine W.widen (k := 1) (n := 67161) (by (first | ((try clear hAD); (try clear f2); (try clear f1); (try clear hin); (try clear hT0); (try clear hsz); (try clear s₁); omega) | omega)) (by (first | ((try clear hAD); (try clear f2); (try clear f1); (try clear hin); (try clear hT0); (try clear hsz); (try clear s₁); omega) | omega)) ?_
  have hP : va_P (dC, dI) vwCl (fl (h0 + 45) 2 (cwb (fun k => sE cI cZ cII cIII h0 (45 + k) (fun x => iZ (sI (45 + k) x))) 8 [.null, .null] 0 ((fun k => sE cI cZ cII cIII h0 (45 + k) (fun x => iZ (sI (45 + k) x))) 0))) H := hP
  refine va_putF (D := (dC, dI)) (ci := 8) (v := .ref ((h0 + 45) + 1)) (ty := .array .int) (C := RX8) (T := TX8) (N := 2) hx hb hts inG8 tyX8 tyX8_ok nmX8 hown hK hP (fl_D (hAD 2 (by decide))) hS 0 (cwb_get (by decide)) rfl 0 (by decide) (hts _ k211) (fun _ h9 => h9) rfl hin rfl (by decide +kernel) rfl rfl (Nat.le_of_ble_eq_true rfl) dX8_init_9 (fun H locs hP _ hS => ?_)
  have hP : va_P (dC, dI) vwCl (fl (h0 + 45) 2 (cwb (fun k => sE cI cZ cII cIII h0 (45 + k) (fun x => iZ (sI (45 + k) x))) 8 [.ref ((h0 + 45) + 1), .null] 0 ((fun k => sE cI cZ cII cIII h0 (45 + k) (fun x => iZ (sI (45 + k) x))) 0))) H := cwb_setP hP
  refine lv_aload_n hx hb dX8_init_12 rfl (lv_at hl 0 rfl) ?_
  refine lv_sipush (v := iZ 1101) hx hb dX8_init_13 rfl ?_
  refine cz_new (atype := .int) (n := 2) (cA := cI) (N' := 1101) (a0 := (1101, .inl (fun _ => 0))) hx hb (hts _ k65) f1 hP (by decide) (by (first | ((try clear hAD); (try clear f2); (try clear f1); (try clear hin); (try clear hT0); (try clear s₁); omega) | omega)) hS ((cwb_n (by decide) (by decide)).trans ((congrArg (sE cI cZ cII cIII h0 47) (sI_z (by decide))).trans (sE_47 _))) (fun _ => rfl) (by decide +kernel) (by decide +kernel) (Nat.le_of_ble_eq_true rfl) (Nat.le_of_ble_eq_true rfl) (Nat.le_of_ble_eq_true rfl) dX8_init_16 (fun H hP hS => ?_)
  refine W.widen (k := 2) (n := 68262) (by (first | ((try clear hAD); (try clear f2); (try clear f1); (try clear hin); (try clear hT0); (try clear hsz); (try clear s₁); omega) | omega)) (by (first | ((try clear hAD); (try clear f2); (try clear f1); (try clear hin); (try clear hT0); (try clear hsz); (try clear s₁); omega) | omega)) ?_
  have hP : va_P (dC, dI) vwCl (fl (h0 + 45) 3 (cwb (fun k => sE cI cZ cII cIII h0 (45 + k) (fun x => iZ (sI (45 + k) x))) 8 [.ref ((h0 + 45) + 1), .null] 0 ((fun k => sE cI cZ cII cIII h0 (45 + k) (fun x => iZ (sI (45 + k) x))) 0))) H := hP
  refine va_putF (D := (dC, dI)) (ci := 8) (v := .ref ((h0 + 45) + 2)) (ty := .array .int) (C := RX8) (T := TX8) (N := 2) hx hb hts inG8 tyX8 tyX8_ok nmX8 hown hK hP (fl_D (hAD 3 (by decide))) hS 0 (cwb_get (by decide)) rfl 1 (by decide) (hts _ k212) (fun _ h9 => h9) rfl hin rfl (by decide +kernel) rfl rfl (Nat.le_of_ble_eq_true rfl) dX8_init_18 (fun H locs hP _ hS => ?_)
  have hP : va_P (dC, dI) vwCl (fl (h0 + 45) 3 (cwb (fun k => sE cI cZ cII cIII h0 (45 + k) (fun x => iZ (sI (45 + k) x))) 8 [.ref ((h0 + 45) + 1), .ref ((h0 + 45) + 2)] 0 ((fun k => sE cI cZ cII cIII h0 (45 + k) (fun x => iZ (sI (45 + k) x))) 0))) H := cwb_setP hP
  have hPf : va_P (dC, dI) vwCl (fl (h0 + 45) 3 (fun k => sE cI cZ cII cIII h0 (45 + k) (fun x => iZ (sI (45 + k) x)))) H := fl_eq hP (fun k hk => cwb_e (Rf := (fun k => sE cI cZ cII cIII h0 (45 + k) (fun x => iZ (sI (45 + k) x)))) (rfl) k)
  exact W.vret hx hb hr (fun t ht hW => ⟨⟨(), rfl, trivial, by rw [ht]; exact hPf, va_K.moved hW.alike hK⟩, hS.F ht⟩) hS.2.2 dX8_init_21

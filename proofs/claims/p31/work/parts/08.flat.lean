/-! whole numbers as the machine's -/
def iZ (z : Int) : Int32 := Int32.ofInt z
abbrev inR (z : Int) : Prop := -2147483648 ≤ z ∧ z < 2147483648
theorem iZ_self (x : Int32) : iZ x.toInt = x := Int32.ofInt_toInt x
theorem inR_self (x : Int32) : inR x.toInt := ⟨Int32.le_toInt x, Int32.toInt_lt x⟩
theorem iZ_ex (x : Int32) : ∃ z : Int, x = iZ z ∧ inR z := ⟨x.toInt, (iZ_self x).symm, inR_self x⟩
theorem iZ_toInt {z : Int} (h : inR z) : (iZ z).toInt = z := Int32.toInt_ofInt_of_le h.1 h.2
theorem iZ_add (a b : Int) : iZ a + iZ b = iZ (a + b) := (Int32.ofInt_add a b).symm
theorem iZ_sub (a b : Int) : iZ a - iZ b = iZ (a - b) := (Int32.ofInt_sub a b).symm
theorem iZ_mul (a b : Int) : iZ a * iZ b = iZ (a * b) := (Int32.ofInt_mul a b).symm
theorem iZ_eq {a b : Int} (ha : inR a) (hb : inR b) : iZ a = iZ b ↔ a = b := ⟨fun h => by rw [← iZ_toInt ha, ← iZ_toInt hb, h], fun h => by rw [h]⟩
theorem iZ_lt {a b : Int} (ha : inR a) (hb : inR b) : iZ a < iZ b ↔ a < b := by rw [Int32.lt_iff_toInt_lt, iZ_toInt ha, iZ_toInt hb]
theorem iZ_le {a b : Int} (ha : inR a) (hb : inR b) : iZ a ≤ iZ b ↔ a ≤ b := by rw [Int32.le_iff_toInt_le, iZ_toInt ha, iZ_toInt hb]
theorem iZ_0 : (0 : Int32) = iZ 0 := rfl
theorem inR0 : inR 0 := by decide
theorem iZ_clamp {z : Int} (h0 : 0 ≤ z) (h1 : z < 2147483648) : (iZ z).toNatClampNeg = z.toNat := Int32.toNatClampNeg_ofInt_of_le (by omega) h1
theorem iZ_in {z : Int} {n : Nat} (h0 : 0 ≤ z) (h1 : z < n) (hn : n ≤ 2147483648) : vp_in (iZ z) n := by
  have h := iZ_clamp h0 (by omega)
  unfold vp_in
  rw [h, iZ_0, iZ_lt ⟨by omega, by omega⟩ inR0]
  omega
theorem iZ_div {a b : Int} (ha : inR a) (hb : inR b) (h : 0 < b) : iZ a / iZ b = iZ (a.tdiv b) := (Int32.ofInt_tdiv ha.1 (by have := ha.2; show a ≤ 2147483647; omega) hb.1 (by have := hb.2; show b ≤ 2147483647; omega)).symm
/-! flat worlds: cells one behind another from h0 on; the k-th holds what EE makes of its numbers -/
def fl (h0 K : Nat) (w : Nat → va_E) : va_W := (List.range K).map (fun k => (h0 + k, w k))
theorem fl_get {h0 K k : Nat} {w : Nat → va_E} (hk : k < K) : (fl h0 K w)[k]? = some (h0 + k, w k) := by
  unfold fl
  rw [List.getElem?_map, List.getElem?_range hk]
  rfl
theorem fl_inv {h0 K k : Nat} {w : Nat → va_E} {q : Nat × va_E} (h : (fl h0 K w)[k]? = some q) : k < K ∧ q = (h0 + k, w k) := by
  have hk : k < K := by
    have := (List.getElem?_eq_some_iff.mp h).1
    simpa [fl] using this
  rw [fl_get hk] at h
  exact ⟨hk, (Option.some.inj h).symm⟩
theorem fl_set {h0 K k : Nat} {w : Nat → va_E} {e : va_E} : (fl h0 K w).set k (h0 + k, e) = fl h0 K (fun j => if j = k then e else w j) := by
  refine List.ext_getElem? fun i => ?_
  by_cases hi : i < K
  · rw [fl_get hi, List.getElem?_set]
    by_cases hki : k = i
    · subst hki
      have hl : k < (fl h0 K w).length := by simp [fl, hi]
      simp [hl]
    · have hik : ¬ i = k := fun q => hki q.symm
      rw [if_neg hki, fl_get hi, if_neg hik]
  · rw [List.getElem?_eq_none (by simp [fl]; omega), List.getElem?_eq_none (by simp [fl]; omega)]
theorem fl_P {D : va_G} {cl : List vw_C} {h0 K : Nat} {w : Nat → va_E} {H : Heap} (h : ∀ k, k < K → va_at D cl (h0 + k, w k) H) : va_P D cl (fl h0 K w) H := fun k q hq => by
  obtain ⟨hk, rfl⟩ := fl_inv hq
  exact h k hk
theorem fl_at {D : va_G} {cl : List vw_C} {h0 K k : Nat} {w : Nat → va_E} {H : Heap} (h : va_P D cl (fl h0 K w) H) (hk : k < K) : va_at D cl (h0 + k, w k) H := h k _ (fl_get hk)
theorem fl_D {A : Nat → Prop} {h0 K : Nat} {w : Nat → va_E} (hA : ∀ k, k < K → A (h0 + k)) : va_D A (fl h0 K w) := by
  refine ⟨fun i j x y hi hj hxy => ?_, fun k q hq => ?_⟩
  · obtain ⟨-, rfl⟩ := fl_inv hi
    obtain ⟨-, rfl⟩ := fl_inv hj
    simp only at hxy
    omega
  · obtain ⟨hk, rfl⟩ := fl_inv hq
    exact hA k hk
abbrev va_EE : Type := Nat → (Nat → Int32) → va_E
abbrev va_M : Type := Nat → Nat → Int
def fw (EE : va_EE) (h0 K : Nat) (μ : va_M) : va_W := fl h0 K (fun k => EE k (fun j => iZ (μ k j)))
def uz (μ : va_M) (k j : Nat) (z : Int) : va_M := fun a b => if a = k ∧ b = j then z else μ a b
theorem uz_s {μ : va_M} {k j : Nat} {z : Int} : uz μ k j z k j = z := if_pos ⟨rfl, rfl⟩
theorem uz_n {μ : va_M} {k j a b : Nat} {z : Int} (h : ¬ (a = k ∧ b = j)) : uz μ k j z a b = μ a b := if_neg h
theorem uz_row {μ : va_M} {k j a : Nat} {z : Int} (h : a ≠ k) : uz μ k j z a = μ a := funext fun b => if_neg fun q => h q.1
theorem uz_upd {μ : va_M} {k j : Nat} {z : Int} : upd (fun b => iZ (μ k b)) j (iZ z) = fun b => iZ (uz μ k j z k b) := by
  funext b
  by_cases h : b = j
  · subst h; rw [pk_us, uz_s]
  · rw [pk_un h, uz_n (fun q => h q.2)]
theorem fw_get {EE : va_EE} {h0 K k : Nat} {μ : va_M} (hk : k < K) : (fw EE h0 K μ)[k]? = some (h0 + k, EE k (fun j => iZ (μ k j))) := fl_get hk
theorem fw_set {EE : va_EE} {h0 K k j : Nat} {μ : va_M} {z : Int} : (fw EE h0 K μ).set k (h0 + k, EE k (upd (fun b => iZ (μ k b)) j (iZ z))) = fw EE h0 K (uz μ k j z) := by
  unfold fw
  rw [fl_set]
  congr 1
  funext a
  by_cases h : a = k
  · subst h; rw [if_pos rfl, uz_upd]
  · rw [if_neg h, uz_row h]
theorem fw_D {A : Nat → Prop} {EE : va_EE} {h0 K : Nat} {μ : va_M} (hA : ∀ k, k < K → A (h0 + k)) : va_D A (fw EE h0 K μ) := fl_D hA
def fA (h0 K sz : Nat) : Nat → Prop := fun q => (h0 ≤ q ∧ q < h0 + K) ∨ sz ≤ q
theorem fA_in {h0 K sz : Nat} : ∀ k, k < K → fA h0 K sz (h0 + k) := fun k hk => Or.inl ⟨by omega, by omega⟩
theorem fA_le {h0 K s1 s2 : Nat} (h : s1 ≤ s2) : ∀ q, fA h0 K s2 q → fA h0 K s1 q := fun _ hq => hq.elim Or.inl (fun h1 => Or.inr (Nat.le_trans h h1))
section FZ
variable {p : Program} {l : Launch} {e : Env} {R : Room} {s : State} {m : MethodId} {args : Array Value} {below : List Frame} {meth : Method} {c : Code} {H : Heap} {locs : List Loc} {cells slots : Nat} {Q : State → Prop}
variable {cc : ByteArray} {pc : Nat} {ls : Array Slot} {rest : List Value} {D : va_G} {cl : List vw_C} {A : Nat → Prop} {tys : List (ClassId × FieldType)} {ws : va_W} {H0 : Heap} {EE : va_EE} {h0 K : Nat} {μ : va_M}
theorem va_alda {a : Nat} {ty : FieldType} (href : ty.isReference = true) (hexec : p.tables.exec = Jvm.exec) (hb : c.code = cc) (hK : va_K D cl tys s) (hP : va_P D cl ws H) (q0 t0 : Nat) {cA : ClassId} {n : Nat} {f : Nat → Option Nat} (ha : ws[q0]? = some (a, .inl (cA, n, .inr (.inr (.inr (.inr f)))))) (ht : tys[t0]? = some (cA, ty)) {i : Int32} (hin : vp_in i n) {v : Value} (hv : va_rf (f i.toNatClampNeg) = v) (hdg : decode cc pc = .ok (.aaload, 1))
    (kk : W p l e R s m args below meth c H locs cells slots Q (F0 m (pc + 1) ls (v :: rest))) : W p l e R s m args below meth c H locs cells slots Q (F0 m pc ls (.int i :: .ref a :: rest)) := by
  subst hv
  have hlt : i.toNatClampNeg < n := Nat.not_le.mp fun q => hin (Or.inr q)
  exact W.aald (v := va_rf (f i.toNatClampNeg)) (ty := ty) hexec hb (hP q0 _ ha) ((hK.2 t0 _ ht).1 n (fun j => va_rf (f j))) href (fun q => by cases q) (by show ¬ (i < 0 ∨ (arrV _ _ _).slots.size ≤ _); rw [arrV_size]; exact hin) (by show (arrV _ _ _).slots[_]? = _; rw [arrV_read _ _ hlt]) rfl rfl hdg kk
theorem fz_icmp_eq {x y : Int} (hx : inR x) (hy : inR y) (hexec : p.tables.exec = Jvm.exec) (hb : c.code = cc) {off : Int} {tgt : Nat} (hdg : decode cc pc = .ok (.if_icmp .eq off, 3)) (ht : (pc : Int) + off = (tgt : Int)) (kt : x = y → W p l e R s m args below meth c H locs cells slots Q (F0 m tgt ls (rest))) (kf : ¬ x = y → W p l e R s m args below meth c H locs cells slots Q (F0 m (pc + 3) ls (rest))) : W p l e R s m args below meth c H locs cells slots Q (F0 m pc ls (.int (iZ y) :: .int (iZ x) :: rest)) := lv_icmp_eq hexec hb hdg ht (fun h => kt ((iZ_eq hx hy).mp h)) (fun h => kf (fun q => h ((iZ_eq hx hy).mpr q)))
theorem fz_icmp_ne {x y : Int} (hx : inR x) (hy : inR y) (hexec : p.tables.exec = Jvm.exec) (hb : c.code = cc) {off : Int} {tgt : Nat} (hdg : decode cc pc = .ok (.if_icmp .ne off, 3)) (ht : (pc : Int) + off = (tgt : Int)) (kt : ¬ x = y → W p l e R s m args below meth c H locs cells slots Q (F0 m tgt ls (rest))) (kf : x = y → W p l e R s m args below meth c H locs cells slots Q (F0 m (pc + 3) ls (rest))) : W p l e R s m args below meth c H locs cells slots Q (F0 m pc ls (.int (iZ y) :: .int (iZ x) :: rest)) := lv_icmp_ne hexec hb hdg ht (fun h => kt (fun q => h ((iZ_eq hx hy).mpr q))) (fun h => kf ((iZ_eq hx hy).mp h))
theorem fz_icmp_lt {x y : Int} (hx : inR x) (hy : inR y) (hexec : p.tables.exec = Jvm.exec) (hb : c.code = cc) {off : Int} {tgt : Nat} (hdg : decode cc pc = .ok (.if_icmp .lt off, 3)) (ht : (pc : Int) + off = (tgt : Int)) (kt : x < y → W p l e R s m args below meth c H locs cells slots Q (F0 m tgt ls (rest))) (kf : y ≤ x → W p l e R s m args below meth c H locs cells slots Q (F0 m (pc + 3) ls (rest))) : W p l e R s m args below meth c H locs cells slots Q (F0 m pc ls (.int (iZ y) :: .int (iZ x) :: rest)) := lv_icmp_lt hexec hb hdg ht (fun h => kt ((iZ_lt hx hy).mp h)) (fun h => kf (Int.not_lt.mp (fun q => h ((iZ_lt hx hy).mpr q))))
theorem fz_icmp_ge {x y : Int} (hx : inR x) (hy : inR y) (hexec : p.tables.exec = Jvm.exec) (hb : c.code = cc) {off : Int} {tgt : Nat} (hdg : decode cc pc = .ok (.if_icmp .ge off, 3)) (ht : (pc : Int) + off = (tgt : Int)) (kt : y ≤ x → W p l e R s m args below meth c H locs cells slots Q (F0 m tgt ls (rest))) (kf : x < y → W p l e R s m args below meth c H locs cells slots Q (F0 m (pc + 3) ls (rest))) : W p l e R s m args below meth c H locs cells slots Q (F0 m pc ls (.int (iZ y) :: .int (iZ x) :: rest)) := lv_icmp_ge hexec hb hdg ht (fun h => kt ((iZ_le hy hx).mp h)) (fun h => kf (Int.not_le.mp (fun q => h ((iZ_le hy hx).mpr q))))
theorem fz_icmp_gt {x y : Int} (hx : inR x) (hy : inR y) (hexec : p.tables.exec = Jvm.exec) (hb : c.code = cc) {off : Int} {tgt : Nat} (hdg : decode cc pc = .ok (.if_icmp .gt off, 3)) (ht : (pc : Int) + off = (tgt : Int)) (kt : y < x → W p l e R s m args below meth c H locs cells slots Q (F0 m tgt ls (rest))) (kf : x ≤ y → W p l e R s m args below meth c H locs cells slots Q (F0 m (pc + 3) ls (rest))) : W p l e R s m args below meth c H locs cells slots Q (F0 m pc ls (.int (iZ y) :: .int (iZ x) :: rest)) := lv_icmp_gt hexec hb hdg ht (fun h => kt ((iZ_lt hy hx).mp h)) (fun h => kf (Int.not_lt.mp (fun q => h ((iZ_lt hy hx).mpr q))))
theorem fz_icmp_le {x y : Int} (hx : inR x) (hy : inR y) (hexec : p.tables.exec = Jvm.exec) (hb : c.code = cc) {off : Int} {tgt : Nat} (hdg : decode cc pc = .ok (.if_icmp .le off, 3)) (ht : (pc : Int) + off = (tgt : Int)) (kt : x ≤ y → W p l e R s m args below meth c H locs cells slots Q (F0 m tgt ls (rest))) (kf : y < x → W p l e R s m args below meth c H locs cells slots Q (F0 m (pc + 3) ls (rest))) : W p l e R s m args below meth c H locs cells slots Q (F0 m pc ls (.int (iZ y) :: .int (iZ x) :: rest)) := lv_icmp_le hexec hb hdg ht (fun h => kt ((iZ_le hx hy).mp h)) (fun h => kf (Int.not_le.mp (fun q => h ((iZ_le hx hy).mpr q))))
theorem fz_if_eq {x : Int} (hx : inR x) (hexec : p.tables.exec = Jvm.exec) (hb : c.code = cc) {off : Int} {tgt : Nat} (hdg : decode cc pc = .ok (.ifCond .eq off, 3)) (ht : (pc : Int) + off = (tgt : Int)) (kt : x = 0 → W p l e R s m args below meth c H locs cells slots Q (F0 m tgt ls (rest))) (kf : ¬ x = 0 → W p l e R s m args below meth c H locs cells slots Q (F0 m (pc + 3) ls (rest))) : W p l e R s m args below meth c H locs cells slots Q (F0 m pc ls (.int (iZ x) :: rest)) := have hy := inR0
  lv_if_eq hexec hb hdg ht (fun h => kt ((iZ_eq hx hy).mp h)) (fun h => kf (fun q => h ((iZ_eq hx hy).mpr q)))
theorem fz_if_ne {x : Int} (hx : inR x) (hexec : p.tables.exec = Jvm.exec) (hb : c.code = cc) {off : Int} {tgt : Nat} (hdg : decode cc pc = .ok (.ifCond .ne off, 3)) (ht : (pc : Int) + off = (tgt : Int)) (kt : ¬ x = 0 → W p l e R s m args below meth c H locs cells slots Q (F0 m tgt ls (rest))) (kf : x = 0 → W p l e R s m args below meth c H locs cells slots Q (F0 m (pc + 3) ls (rest))) : W p l e R s m args below meth c H locs cells slots Q (F0 m pc ls (.int (iZ x) :: rest)) := have hy := inR0
  lv_if_ne hexec hb hdg ht (fun h => kt (fun q => h ((iZ_eq hx hy).mpr q))) (fun h => kf ((iZ_eq hx hy).mp h))
theorem fz_if_lt {x : Int} (hx : inR x) (hexec : p.tables.exec = Jvm.exec) (hb : c.code = cc) {off : Int} {tgt : Nat} (hdg : decode cc pc = .ok (.ifCond .lt off, 3)) (ht : (pc : Int) + off = (tgt : Int)) (kt : x < 0 → W p l e R s m args below meth c H locs cells slots Q (F0 m tgt ls (rest))) (kf : 0 ≤ x → W p l e R s m args below meth c H locs cells slots Q (F0 m (pc + 3) ls (rest))) : W p l e R s m args below meth c H locs cells slots Q (F0 m pc ls (.int (iZ x) :: rest)) := have hy := inR0
  lv_if_lt hexec hb hdg ht (fun h => kt ((iZ_lt hx hy).mp h)) (fun h => kf (Int.not_lt.mp (fun q => h ((iZ_lt hx hy).mpr q))))
theorem fz_if_ge {x : Int} (hx : inR x) (hexec : p.tables.exec = Jvm.exec) (hb : c.code = cc) {off : Int} {tgt : Nat} (hdg : decode cc pc = .ok (.ifCond .ge off, 3)) (ht : (pc : Int) + off = (tgt : Int)) (kt : 0 ≤ x → W p l e R s m args below meth c H locs cells slots Q (F0 m tgt ls (rest))) (kf : x < 0 → W p l e R s m args below meth c H locs cells slots Q (F0 m (pc + 3) ls (rest))) : W p l e R s m args below meth c H locs cells slots Q (F0 m pc ls (.int (iZ x) :: rest)) := have hy := inR0
  lv_if_ge hexec hb hdg ht (fun h => kt ((iZ_le hy hx).mp h)) (fun h => kf (Int.not_le.mp (fun q => h ((iZ_le hy hx).mpr q))))
theorem fz_if_le {x : Int} (hx : inR x) (hexec : p.tables.exec = Jvm.exec) (hb : c.code = cc) {off : Int} {tgt : Nat} (hdg : decode cc pc = .ok (.ifCond .le off, 3)) (ht : (pc : Int) + off = (tgt : Int)) (kt : x ≤ 0 → W p l e R s m args below meth c H locs cells slots Q (F0 m tgt ls (rest))) (kf : 0 < x → W p l e R s m args below meth c H locs cells slots Q (F0 m (pc + 3) ls (rest))) : W p l e R s m args below meth c H locs cells slots Q (F0 m pc ls (.int (iZ x) :: rest)) := have hy := inR0
  lv_if_le hexec hb hdg ht (fun h => kt ((iZ_le hx hy).mp h)) (fun h => kf (Int.not_le.mp (fun q => h ((iZ_le hx hy).mpr q))))
theorem fz_ld (hexec : p.tables.exec = Jvm.exec) (hb : c.code = cc) (hK : va_K D cl tys s) (hP : va_P D cl (fw EE h0 K μ) H) (t0 : Nat) {k n : Nat} {cA : ClassId} (hk : k < K) (hE : ∀ f, EE k f = .inl (cA, n, .inl f)) (ht : tys[t0]? = some (cA, .int)) {i : Int} (hi : 0 ≤ i ∧ i < n) (hn : n ≤ 2147483648) (hdg : decode cc pc = .ok (.iaload, 1))
    (kk : W p l e R s m args below meth c H locs cells slots Q (F0 m (pc + 1) ls (.int (iZ (μ k i.toNat)) :: rest))) : W p l e R s m args below meth c H locs cells slots Q (F0 m pc ls (.int (iZ i) :: .ref (h0 + k) :: rest)) := by
  refine va_iald hexec hb hK hP k t0 (by rw [fw_get hk, hE]) ht (iZ_in hi.1 hi.2 hn) hdg ?_
  rw [iZ_clamp hi.1 (by omega)]
  exact kk
theorem fz_zld (hexec : p.tables.exec = Jvm.exec) (hb : c.code = cc) (hK : va_K D cl tys s) (hP : va_P D cl (fw EE h0 K μ) H) (t0 : Nat) {k n : Nat} {cA : ClassId} (hk : k < K) (hE : ∀ f, EE k f = .inl (cA, n, .inl f)) (ht : tys[t0]? = some (cA, .boolean)) {i : Int} (hi : 0 ≤ i ∧ i < n) (hn : n ≤ 2147483648) (hdg : decode cc pc = .ok (.baload, 1))
    (kk : W p l e R s m args below meth c H locs cells slots Q (F0 m (pc + 1) ls (.int (iZ (μ k i.toNat)) :: rest))) : W p l e R s m args below meth c H locs cells slots Q (F0 m pc ls (.int (iZ i) :: .ref (h0 + k) :: rest)) := by
  refine va_zald hexec hb hK hP k t0 (by rw [fw_get hk, hE]) ht (iZ_in hi.1 hi.2 hn) hdg ?_
  rw [iZ_clamp hi.1 (by omega)]
  exact kk
theorem fz_ald (hexec : p.tables.exec = Jvm.exec) (hb : c.code = cc) (hK : va_K D cl tys s) (hP : va_P D cl (fw EE h0 K μ) H) (t0 : Nat) {k n k2 : Nat} {cA : ClassId} {ty : FieldType} (href : ty.isReference = true) {g : Nat → Option Nat} (hk : k < K) (hE : ∀ f, EE k f = .inl (cA, n, .inr (.inr (.inr (.inr g))))) (ht : tys[t0]? = some (cA, ty)) {i : Int} (hi : 0 ≤ i ∧ i < n) (hn : n ≤ 2147483648) (hg : g i.toNat = some (h0 + k2)) (hdg : decode cc pc = .ok (.aaload, 1))
    (kk : W p l e R s m args below meth c H locs cells slots Q (F0 m (pc + 1) ls (.ref (h0 + k2) :: rest))) : W p l e R s m args below meth c H locs cells slots Q (F0 m pc ls (.int (iZ i) :: .ref (h0 + k) :: rest)) := by
  refine va_alda (v := .ref (h0 + k2)) href hexec hb hK hP k t0 (by rw [fw_get hk, hE]) ht (iZ_in hi.1 hi.2 hn) ?_ hdg kk
  rw [iZ_clamp hi.1 (by omega), hg]
  rfl
theorem fz_st (hexec : p.tables.exec = Jvm.exec) (hb : c.code = cc) (hK : va_K D cl tys s) (hP : va_P D cl (fw EE h0 K μ) H) (hA : ∀ k, k < K → A (h0 + k)) (hS : va_S A H0 H locs) (t0 : Nat) {k n : Nat} {cA : ClassId} (hk : k < K) (hE : ∀ f, EE k f = .inl (cA, n, .inl f)) (ht : tys[t0]? = some (cA, .int)) {i z : Int} (hi : 0 ≤ i ∧ i < n) (hn : n ≤ 2147483648) (hdg : decode cc pc = .ok (.iastore, 1))
    (kk : ∀ (H1 : Heap) (locs1 : List Loc), va_P D cl (fw EE h0 K (uz μ k i.toNat z)) H1 → va_S A H0 H1 locs1 → W p l e R s m args below meth c H1 locs1 cells slots Q (F0 m (pc + 1) ls rest)) : W p l e R s m args below meth c H locs cells slots Q (F0 m pc ls (.int (iZ z) :: .int (iZ i) :: .ref (h0 + k) :: rest)) := by
  refine va_iast hexec hb hK hP (fw_D hA) hS k t0 (f := fun j => iZ (μ k j)) (by rw [fw_get hk, hE]) ht (iZ_in hi.1 hi.2 hn) hdg (fun H1 locs1 hP1 _ hS1 => ?_)
  rw [iZ_clamp hi.1 (by omega), ← hE, fw_set] at hP1
  exact kk H1 locs1 hP1 hS1
theorem fz_nar {z : Int} (hz : z = 0 ∨ z = 1) : vp_nar .boolean (iZ z) = iZ z := by rcases hz with rfl | rfl <;> decide +kernel
theorem fz_zst (hexec : p.tables.exec = Jvm.exec) (hb : c.code = cc) (hK : va_K D cl tys s) (hP : va_P D cl (fw EE h0 K μ) H) (hA : ∀ k, k < K → A (h0 + k)) (hS : va_S A H0 H locs) (t0 : Nat) {k n : Nat} {cA : ClassId} (hk : k < K) (hE : ∀ f, EE k f = .inl (cA, n, .inl f)) (ht : tys[t0]? = some (cA, .boolean)) {i z : Int} (hi : 0 ≤ i ∧ i < n) (hn : n ≤ 2147483648) (hz : z = 0 ∨ z = 1) (hdg : decode cc pc = .ok (.bastore, 1))
    (kk : ∀ (H1 : Heap) (locs1 : List Loc), va_P D cl (fw EE h0 K (uz μ k i.toNat z)) H1 → va_S A H0 H1 locs1 → W p l e R s m args below meth c H1 locs1 cells slots Q (F0 m (pc + 1) ls rest)) : W p l e R s m args below meth c H locs cells slots Q (F0 m pc ls (.int (iZ z) :: .int (iZ i) :: .ref (h0 + k) :: rest)) := by
  refine va_zast hexec hb hK hP (fw_D hA) hS k t0 (f := fun j => iZ (μ k j)) (by rw [fw_get hk, hE]) ht (iZ_in hi.1 hi.2 hn) hdg (fun H1 locs1 hP1 _ hS1 => ?_)
  rw [iZ_clamp hi.1 (by omega), fz_nar hz, ← hE, fw_set] at hP1
  exact kk H1 locs1 hP1 hS1
theorem fz_len (hexec : p.tables.exec = Jvm.exec) (hb : c.code = cc) (hK : va_K D cl tys s) (hP : va_P D cl (fw EE h0 K μ) H) (t0 : Nat) {k n : Nat} {cA : ClassId} {ty : FieldType} (hk : k < K) (hE : ∀ f, EE k f = .inl (cA, n, .inl f)) (ht : tys[t0]? = some (cA, ty)) (hdg : decode cc pc = .ok (.arraylength, 1))
    (kk : W p l e R s m args below meth c H locs cells slots Q (F0 m (pc + 1) ls (.int (iZ n) :: rest))) : W p l e R s m args below meth c H locs cells slots Q (F0 m pc ls (.ref (h0 + k) :: rest)) :=
  va_alen hexec hb hK hP k t0 (by rw [fw_get hk, hE]) ht (v := iZ n) (Int32.ofInt_eq_ofNat).symm hdg kk
theorem fz_get (hexec : p.tables.exec = Jvm.exec) (hb : c.code = cc) {own ref C : String} {T : u_T} {N ci index : Nat} {Ts : List Cond} (hts : ∀ w ∈ Ts, w.before args s = true) (hin : ∀ w ∈ u_ws C T N, w ∈ Ts) (hown : s.vm.findClass own = some m.cls) (hK : va_K D cl tys s) (hP : va_P D cl (fw EE h0 K μ) H) {k : Nat} (hk : k < K) {F : (Nat → Int32) → List Value} (hE : ∀ f, EE k f = .inr (ci, F f)) (hc : cl[ci]? = some (C, T, N)) (j : Nat) (hj : j < N) (hlink : (Cond.fieldLink own index ref (T j).2.1 (T j).2.2.1).before args s = true) (hsame : ∀ x, s.fieldFound? (T j).1 (T j).2.1 (T j).2.2.1 = some x → s.fieldFound? ref (T j).2.1 (T j).2.2.1 = some x) {v : Value} (hv : (F (fun j => iZ (μ k j)))[j]? = some v) (hdg : decode cc pc = .ok (.getfield index, 3))
    (kk : W p l e R s m args below meth c H locs cells slots Q (F0 m (pc + 3) ls (v :: rest))) : W p l e R s m args below meth c H locs cells slots Q (F0 m pc ls (.ref (h0 + k) :: rest)) :=
  va_get hexec hb hts hin hown hK hP k (by rw [fw_get hk, hE]) hc j hj hlink hsame hv hdg kk
theorem fz_put (hexec : p.tables.exec = Jvm.exec) (hb : c.code = cc) {own ref C : String} {T : u_T} {N ci index : Nat} {Ts : List Cond} (hts : ∀ w ∈ Ts, w.before args s = true) (hin : ∀ w ∈ u_ws C T N, w ∈ Ts) (ty0 : Nat → FieldType) (hty : ∀ k, k < N → parseFieldDescriptor (T k).2.2.1 = some (ty0 k)) (hnm : ∀ a, a < N → ∀ b, b < N → a ≠ b → (T a).2.1 ≠ (T b).2.1) (hown : s.vm.findClass own = some m.cls) (hK : va_K D cl tys s) (hP : va_P D cl (fw EE h0 K μ) H) (hA : ∀ k, k < K → A (h0 + k)) (hS : va_S A H0 H locs) {k : Nat} (hk : k < K) {F : (Nat → Int32) → List Value} (hE : ∀ f, EE k f = .inr (ci, F f)) (hc : cl[ci]? = some (C, T, N)) (j : Nat) (hj : j < N) (hlink : (Cond.fieldLink own index ref (T j).2.1 (T j).2.2.1).before args s = true) (hsame : ∀ x, s.fieldFound? (T j).1 (T j).2.1 (T j).2.2.1 = some x → s.fieldFound? ref (T j).2.1 (T j).2.2.1 = some x) (hfin : (T j).2.2.2 = false) {ty : FieldType} (hd : parseFieldDescriptor (T j).2.2.1 = some ty) {z : Int} (hn : narrow ty (.int (iZ z)) = .int (iZ z)) (hfit : fits ty (.int (iZ z)) = true) (hl : ∀ f, j < (F f).length) (hset : ∀ (f : Nat → Int32) (x : Int32), (F f).set j (.int x) = F (upd f j x))
    (hdg : decode cc pc = .ok (.putfield index, 3)) (kk : ∀ (H1 : Heap) (locs1 : List Loc), va_P D cl (fw EE h0 K (uz μ k j z)) H1 → va_S A H0 H1 locs1 → W p l e R s m args below meth c H1 locs1 cells slots Q (F0 m (pc + 3) ls rest)) : W p l e R s m args below meth c H locs cells slots Q (F0 m pc ls (.int (iZ z) :: .ref (h0 + k) :: rest)) := by
  refine va_put hexec hb hts hin ty0 hty hnm hown hK hP (fw_D hA) hS k (fs := F (fun j => iZ (μ k j))) (by rw [fw_get hk, hE]) hc j hj hlink hsame hfin hd hn hfit (hl _) hdg (fun H1 locs1 hP1 _ hS1 => ?_)
  rw [hset, ← hE, fw_set] at hP1
  exact kk H1 locs1 hP1 hS1
end FZ
theorem fz_narZ {z : Int} (hz : z = 0 ∨ z = 1) : narrow .boolean (.int (iZ z)) = .int (iZ z) := by rcases hz with rfl | rfl <;> decide +kernel

theorem dX10_adds_0 : decode cX10_adds 0 = .ok (.iload_n 1, 1) := by decide +kernel
theorem dX10_adds_1 : decode cX10_adds 1 = .ok (.iconst (-1), 1) := by decide +kernel
theorem dX10_adds_2 : decode cX10_adds 2 = .ok (.if_icmp .ne 5, 3) := by decide +kernel
theorem dX10_adds_5 : decode cX10_adds 5 = .ok (.iconst 0, 1) := by decide +kernel
theorem dX10_adds_6 : decode cX10_adds 6 = .ok (.ireturn, 1) := by decide +kernel
theorem dX10_adds_7 : decode cX10_adds 7 = .ok (.aload_n 0, 1) := by decide +kernel
theorem dX10_adds_8 : decode cX10_adds 8 = .ok (.getfield 54, 3) := by decide +kernel
theorem dX10_adds_11 : decode cX10_adds 11 = .ok (.iload_n 1, 1) := by decide +kernel
theorem dX10_adds_12 : decode cX10_adds 12 = .ok (.iaload, 1) := by decide +kernel
theorem dX10_adds_13 : decode cX10_adds 13 = .ok (.istore 4, 2) := by decide +kernel
theorem dX10_adds_15 : decode cX10_adds 15 = .ok (.aload_n 0, 1) := by decide +kernel
theorem dX10_adds_16 : decode cX10_adds 16 = .ok (.getfield 45, 3) := by decide +kernel
theorem dX10_adds_19 : decode cX10_adds 19 = .ok (.iload_n 1, 1) := by decide +kernel
theorem dX10_adds_20 : decode cX10_adds 20 = .ok (.aaload, 1) := by decide +kernel
theorem dX10_adds_21 : decode cX10_adds 21 = .ok (.iload 4, 2) := by decide +kernel
theorem dX10_adds_23 : decode cX10_adds 23 = .ok (.iload_n 2, 1) := by decide +kernel
theorem dX10_adds_24 : decode cX10_adds 24 = .ok (.iastore, 1) := by decide +kernel
theorem dX10_adds_25 : decode cX10_adds 25 = .ok (.aload_n 0, 1) := by decide +kernel
theorem dX10_adds_26 : decode cX10_adds 26 = .ok (.getfield 48, 3) := by decide +kernel
theorem dX10_adds_29 : decode cX10_adds 29 = .ok (.iload_n 1, 1) := by decide +kernel
theorem dX10_adds_30 : decode cX10_adds 30 = .ok (.aaload, 1) := by decide +kernel
theorem dX10_adds_31 : decode cX10_adds 31 = .ok (.iload 4, 2) := by decide +kernel
theorem dX10_adds_33 : decode cX10_adds 33 = .ok (.iload_n 3, 1) := by decide +kernel
theorem dX10_adds_34 : decode cX10_adds 34 = .ok (.iastore, 1) := by decide +kernel
theorem dX10_adds_35 : decode cX10_adds 35 = .ok (.aload_n 0, 1) := by decide +kernel
theorem dX10_adds_36 : decode cX10_adds 36 = .ok (.getfield 51, 3) := by decide +kernel
theorem dX10_adds_39 : decode cX10_adds 39 = .ok (.iload_n 1, 1) := by decide +kernel
theorem dX10_adds_40 : decode cX10_adds 40 = .ok (.aaload, 1) := by decide +kernel
theorem dX10_adds_41 : decode cX10_adds 41 = .ok (.iload 4, 2) := by decide +kernel
theorem dX10_adds_43 : decode cX10_adds 43 = .ok (.iconst 1, 1) := by decide +kernel
theorem dX10_adds_44 : decode cX10_adds 44 = .ok (.iastore, 1) := by decide +kernel
theorem dX10_adds_45 : decode cX10_adds 45 = .ok (.aload_n 0, 1) := by decide +kernel
theorem dX10_adds_46 : decode cX10_adds 46 = .ok (.getfield 54, 3) := by decide +kernel
theorem dX10_adds_49 : decode cX10_adds 49 = .ok (.iload_n 1, 1) := by decide +kernel
theorem dX10_adds_50 : decode cX10_adds 50 = .ok (.dup2, 1) := by decide +kernel
theorem dX10_adds_51 : decode cX10_adds 51 = .ok (.iaload, 1) := by decide +kernel
theorem dX10_adds_52 : decode cX10_adds 52 = .ok (.iconst 1, 1) := by decide +kernel
theorem dX10_adds_53 : decode cX10_adds 53 = .ok (.iadd, 1) := by decide +kernel
theorem dX10_adds_54 : decode cX10_adds 54 = .ok (.iastore, 1) := by decide +kernel
theorem dX10_adds_55 : decode cX10_adds 55 = .ok (.iload 4, 2) := by decide +kernel
theorem dX10_adds_57 : decode cX10_adds 57 = .ok (.ireturn, 1) := by decide +kernel
theorem dX10_closes_0 : decode cX10_closes 0 = .ok (.iload_n 1, 1) := by decide +kernel
theorem dX10_closes_1 : decode cX10_closes 1 = .ok (.iconst (-1), 1) := by decide +kernel
theorem dX10_closes_2 : decode cX10_closes 2 = .ok (.if_icmp .eq 19, 3) := by decide +kernel
theorem dX10_closes_5 : decode cX10_closes 5 = .ok (.aload_n 0, 1) := by decide +kernel
theorem dX10_closes_6 : decode cX10_closes 6 = .ok (.getfield 51, 3) := by decide +kernel
theorem dX10_closes_9 : decode cX10_closes 9 = .ok (.iload_n 1, 1) := by decide +kernel
theorem dX10_closes_10 : decode cX10_closes 10 = .ok (.aaload, 1) := by decide +kernel
theorem dX10_closes_11 : decode cX10_closes 11 = .ok (.iload_n 2, 1) := by decide +kernel
theorem dX10_closes_12 : decode cX10_closes 12 = .ok (.aload_n 0, 1) := by decide +kernel
theorem dX10_closes_13 : decode cX10_closes 13 = .ok (.getfield 54, 3) := by decide +kernel
theorem dX10_closes_16 : decode cX10_closes 16 = .ok (.iload_n 1, 1) := by decide +kernel
theorem dX10_closes_17 : decode cX10_closes 17 = .ok (.iaload, 1) := by decide +kernel
theorem dX10_closes_18 : decode cX10_closes 18 = .ok (.iload_n 2, 1) := by decide +kernel
theorem dX10_closes_19 : decode cX10_closes 19 = .ok (.isub, 1) := by decide +kernel
theorem dX10_closes_20 : decode cX10_closes 20 = .ok (.iastore, 1) := by decide +kernel
theorem dX10_closes_21 : decode cX10_closes 21 = .ok (.return_, 1) := by decide +kernel
theorem dX10_empties_0 : decode cX10_empties 0 = .ok (.aload_n 0, 1) := by decide +kernel
theorem dX10_empties_1 : decode cX10_empties 1 = .ok (.getfield 54, 3) := by decide +kernel
theorem dX10_empties_4 : decode cX10_empties 4 = .ok (.iload_n 1, 1) := by decide +kernel
theorem dX10_empties_5 : decode cX10_empties 5 = .ok (.iconst 0, 1) := by decide +kernel
theorem dX10_empties_6 : decode cX10_empties 6 = .ok (.iastore, 1) := by decide +kernel
theorem dX10_empties_7 : decode cX10_empties 7 = .ok (.return_, 1) := by decide +kernel
/-! rows of items: nothing; or an item (its sort, its token, what is in it) and the rest behind it -/
abbrev Rw : Type := Std.DTreeMap.Internal.Impl Nat (fun _ => Int)
def rN : Rw → Nat
  | .leaf => 0
  | .inner _ _ _ l r => 1 + rN l + rN r
def rI : Rw → Nat
  | .leaf => 0
  | .inner _ _ _ _ r => 1 + rI r
def rL : Rw → Nat
  | .leaf => 0
  | .inner _ k _ l r => (if k < 3 then 1 else 0) + rL l + rL r
/-- where the m-th item begins -/
def rO : Rw → Nat → Nat
  | .leaf, _ => 0
  | .inner _ _ _ _ _, 0 => 0
  | .inner _ _ _ l r, m + 1 => 1 + rN l + rO r m
/-- the row stands in the tree t from place p on -/
def RA (μ : va_M) (t : Nat) : Rw → Nat → Prop
  | .leaf, _ => True
  | .inner _ k v l r, p => μ (507 + t) p = k ∧ μ (578 + t) p = v ∧ μ (649 + t) p = 1 + rN l ∧ RA μ t l (p + 1) ∧ RA μ t r (p + 1 + rN l)
theorem RA_shift {μ u : va_M} {t t2 : Nat} : ∀ (w : Rw) (p q : Nat), RA μ t w p → (∀ d : Nat, d < rN w → u (507 + t2) (q + d) = μ (507 + t) (p + d) ∧ u (578 + t2) (q + d) = μ (578 + t) (p + d) ∧ u (649 + t2) (q + d) = μ (649 + t) (p + d)) → RA u t2 w q
  | .leaf, _, _, _, _ => trivial
  | .inner z k v l r, p, q, ⟨h1, h2, h3, h4, h5⟩, h => by
    have hn : rN (Std.DTreeMap.Internal.Impl.inner z k v l r : Rw) = 1 + rN l + rN r := rfl
    rw [hn] at h
    have h0 := h 0 (by omega)
    simp only [Nat.add_zero] at h0
    refine ⟨h0.1.trans h1, h0.2.1.trans h2, h0.2.2.trans h3, RA_shift l _ _ h4 (fun d hd => ?_), RA_shift r _ _ h5 (fun d hd => ?_)⟩
    · have := h (1 + d) (by omega)
      rw [show q + (1 + d) = q + 1 + d by omega, show p + (1 + d) = p + 1 + d by omega] at this
      exact this
    · have := h (1 + rN l + d) (by omega)
      rw [show q + (1 + rN l + d) = q + 1 + rN l + d by omega, show p + (1 + rN l + d) = p + 1 + rN l + d by omega] at this
      exact this
theorem RA_kept {μ u : va_M} {t : Nat} {w : Rw} {p : Nat} (h : RA μ t w p) (hk : ∀ x : Nat, p ≤ x → x < p + rN w → u (507 + t) x = μ (507 + t) x ∧ u (578 + t) x = μ (578 + t) x ∧ u (649 + t) x = μ (649 + t) x) : RA u t w p :=
  RA_shift w p p h (fun d hd => hk (p + d) (by omega) (by omega))
/-- sorts 0 to 4; options and repeats hold something, others nothing -/
def rWF : Rw → Prop
  | .leaf => True
  | .inner _ k v l r => k ≤ 4 ∧ (k < 3 → l = .leaf) ∧ (3 ≤ k → l ≠ .leaf) ∧ -1 ≤ v ∧ v < 200 ∧ (k < 2 → 0 ≤ v) ∧ rWF l ∧ rWF r
/-- a tree holds a row -/
def TR (μ : va_M) (t : Nat) (w : Rw) : Prop := μ 719 t = rN w ∧ RA μ t w 0
theorem TR_fr {P : Nat → Nat → Prop} {μ u : va_M} {t : Nat} {w : Rw} (h : TR μ t w) (hf : fr P μ u) (hp : ∀ x, ¬ P (507 + t) x ∧ ¬ P (578 + t) x ∧ ¬ P (649 + t) x) (h7 : ¬ P 719 t) : TR u t w :=
  ⟨(hf 719 t h7).trans h.1, RA_kept h.2 (fun x _ _ => ⟨hf _ _ (hp x).1, hf _ _ (hp x).2.1, hf _ _ (hp x).2.2⟩)⟩
/-- what a tree is, told of its cells -/
def PT (t : Nat) (x y : Nat) : Prop := x = 507 + t ∨ x = 578 + t ∨ x = 649 + t ∨ (x = 719 ∧ y = t)
set_option maxHeartbeats 4000000 in
set_option maxRecDepth 100000 in
theorem m_empties (l : Launch) (dC : Nat → ClassId) (dI : Nat → Nat → Nat) (cI cZ cII cIII : ClassId) (h0 sz : Nat) (μ : va_M) (t : Int) (ht : 0 ≤ t ∧ t < 70) : Met l yX10_empties (Cond.code yX10_empties cX10_empties 2 none :: wsG) ({ frames := 1, cells := 0, slots := 0, locals := 14 } : Room) (va_Pc [.ref h0, .int (iZ (t))] (fun U => U.heap.size = sz ∧ va_P (dC, dI) vwCl (fw (mE cI cZ cII cIII h0) h0 6325 μ) U.heap ∧ va_K (dC, dI) vwCl (mT cI cZ cII cIII) U)) (va_Qv (fun (u : va_M) => u = uz μ 719 t.toNat 0) (fun u t => va_P (dC, dI) vwCl (fw (mE cI cZ cII cIII h0) h0 6325 u) t.heap ∧ va_K (dC, dI) vwCl (mT cI cZ cII cIII) t) (fA h0 6325 sz)) 0 0 (fA h0 6325 sz) := by
  refine Met.ofW (cc := cX10_empties) (maxL := 2) (ret := none) (by decide) rfl ?_
  intro p e s m args below meth c s₁ B hml hv
  obtain ⟨rfl, hsz, hP, hK⟩ := hv
  have hx := B.exec
  have hb := B.bytes
  have hr := B.returns
  have hts : ∀ w ∈ wsG, w.before _ s = true := hG_of (atoms_spec (ws := (Cond.code yX10_empties cX10_empties 2 none :: wsG)) B.pre)
  have hown : s.vm.findClass RX10 = some m.cls := findClass_of_methodNamed B.named
  have hlocks := B.notSynchronized
  subst hsz
  have hS : va_S (fA h0 6325 s.heap.size) s.heap s.heap [] := va_S.rf
  have hl := lv_entry ([.ref h0, .int (iZ (t))]) (n := 2) (Nat.le_of_ble_eq_true rfl)
  rw [lg_entry_eq]
  generalize (lg_sl ([.ref h0, .int (iZ (t))]) ++ List.replicate (2 - (lg_sl ([.ref h0, .int (iZ (t))])).length) Slot.unset).toArray = ls at hl ⊢
  have hl : lv_has ls 2 [(0, .ref h0), (1, .int (iZ (t)))] := hl
  refine lv_aload_n hx hb dX10_empties_0 rfl (lv_at hl 0 rfl) ?_
  refine fz_get (D := (dC, dI)) (ci := 10) (v := .ref (h0 + 719)) (C := RX10) (T := TX10) (N := 53) hx hb hts inG10 hown hK hP (k := 0) (by decide) (F := mF h0) mE_obj rfl 21 (by decide) (hts _ k1187) (fun _ h9 => h9) rfl dX10_empties_1 ?_
  refine lv_iload_n hx hb dX10_empties_4 rfl (lv_at hl 1 rfl) ?_
  refine lv_iconst (v := iZ 0) hx hb dX10_empties_5 rfl ?_
  refine fz_st (k := 719) (n := 70) (i := t) (z := 0) hx hb hK hP fA_in hS 0 (by decide) mE_nodes rfl ⟨by omega, by omega⟩ (by decide) dX10_empties_6 (fun H locs hP hS => ?_)
  obtain ⟨μ1, eμ1⟩ : ∃ x : va_M, x = uz μ 719 (t).toNat (0) := ⟨_, rfl⟩
  rw [← eμ1] at hP
  exact W.vret hx hb hr (fun t9 ht9 hW9 => ⟨⟨μ1, rfl, (by
            try dsimp only
            subst eμ1; rfl), by rw [ht9]; exact hP, va_K.moved hW9.alike hK⟩, hS.F ht9⟩) hS.2.2 dX10_empties_7
set_option maxHeartbeats 4000000 in
set_option maxRecDepth 100000 in
theorem m_adds (l : Launch) (dC : Nat → ClassId) (dI : Nat → Nat → Nat) (cI cZ cII cIII : ClassId) (h0 sz : Nat) (μ : va_M) (t : Int) (q : Int) (k : Int) (ht : -1 ≤ t ∧ t < 70) (hn : 0 ≤ t → 0 ≤ μ 719 t.toNat ∧ μ 719 t.toNat < 900) : Met l yX10_adds (Cond.code yX10_adds cX10_adds 5 (some .int) :: wsG) ({ frames := 1, cells := 0, slots := 0, locals := 14 } : Room) (va_Pc [.ref h0, .int (iZ (t)), .int (iZ (q)), .int (iZ (k))] (fun U => U.heap.size = sz ∧ va_P (dC, dI) vwCl (fw (mE cI cZ cII cIII h0) h0 6325 μ) U.heap ∧ va_K (dC, dI) vwCl (mT cI cZ cII cIII) U)) (va_Qi (fun (r9 : Int32) (u : va_M × Int) => r9 = iZ u.2 ∧ (fun (u : va_M) (r : Int) => (t = -1 → u = μ ∧ r = 0) ∧ (0 ≤ t → u = uz (uz (uz (uz μ (507 + t.toNat) (μ 719 t.toNat).toNat q) (578 + t.toNat) (μ 719 t.toNat).toNat k) (649 + t.toNat) (μ 719 t.toNat).toNat 1) 719 t.toNat (μ 719 t.toNat + 1) ∧ r = μ 719 t.toNat)) u.1 u.2) (fun u t => va_P (dC, dI) vwCl (fw (mE cI cZ cII cIII h0) h0 6325 u.1) t.heap ∧ va_K (dC, dI) vwCl (mT cI cZ cII cIII) t) (fA h0 6325 sz)) 0 0 (fA h0 6325 sz) := by
  refine Met.ofW (cc := cX10_adds) (maxL := 5) (ret := (some .int)) (by decide) rfl ?_
  intro p e s m args below meth c s₁ B hml hv
  obtain ⟨rfl, hsz, hP, hK⟩ := hv
  have hx := B.exec
  have hb := B.bytes
  have hr := B.returns
  have hts : ∀ w ∈ wsG, w.before _ s = true := hG_of (atoms_spec (ws := (Cond.code yX10_adds cX10_adds 5 (some .int) :: wsG)) B.pre)
  have hown : s.vm.findClass RX10 = some m.cls := findClass_of_methodNamed B.named
  have hlocks := B.notSynchronized
  subst hsz
  have hS : va_S (fA h0 6325 s.heap.size) s.heap s.heap [] := va_S.rf
  have hl := lv_entry ([.ref h0, .int (iZ (t)), .int (iZ (q)), .int (iZ (k))]) (n := 5) (Nat.le_of_ble_eq_true rfl)
  rw [lg_entry_eq]
  generalize (lg_sl ([.ref h0, .int (iZ (t)), .int (iZ (q)), .int (iZ (k))]) ++ List.replicate (5 - (lg_sl ([.ref h0, .int (iZ (t)), .int (iZ (q)), .int (iZ (k))])).length) Slot.unset).toArray = ls at hl ⊢
  have hl : lv_has ls 5 [(0, .ref h0), (1, .int (iZ (t))), (2, .int (iZ (q))), (3, .int (iZ (k)))] := hl
  refine lv_iload_n hx hb dX10_adds_0 rfl (lv_at hl 1 rfl) ?_
  refine lv_iconst (v := iZ (-1)) hx hb dX10_adds_1 rfl ?_
  refine fz_icmp_ne (tgt := 7) (by constructor <;> omega) (by decide) hx hb dX10_adds_2 (by decide) (fun c2_ => ?_) (fun c2_ => ?_)
  · refine lv_aload_n hx hb dX10_adds_7 rfl (lv_at hl 0 rfl) ?_
    refine fz_get (D := (dC, dI)) (ci := 10) (v := .ref (h0 + 719)) (C := RX10) (T := TX10) (N := 53) hx hb hts inG10 hown hK hP (k := 0) (by decide) (F := mF h0) mE_obj rfl 21 (by decide) (hts _ k1187) (fun _ h9 => h9) rfl dX10_adds_8 ?_
    refine lv_iload_n hx hb dX10_adds_11 rfl (lv_at hl 1 rfl) ?_
    refine fz_ld (k := 719) (n := 70) hx hb hK hP 0 (by decide) mE_nodes rfl ⟨by omega, by omega⟩ (by decide) dX10_adds_12 ?_
    refine lv_istore (lv' := [(4, .int (iZ (μ 719 (t).toNat))), (0, .ref h0), (1, .int (iZ (t))), (2, .int (iZ (q))), (3, .int (iZ (k)))]) hx hb dX10_adds_13 hl (by decide) rfl (fun ls hl => ?_)
    refine lv_aload_n hx hb dX10_adds_15 rfl (lv_at hl 1 rfl) ?_
    refine fz_get (D := (dC, dI)) (ci := 10) (v := .ref (h0 + 506)) (C := RX10) (T := TX10) (N := 53) hx hb hts inG10 hown hK hP (k := 0) (by decide) (F := mF h0) mE_obj rfl 18 (by decide) (hts _ k1184) (fun _ h9 => h9) rfl dX10_adds_16 ?_
    refine lv_iload_n hx hb dX10_adds_19 rfl (lv_at hl 2 rfl) ?_
    refine fz_ald (k := 506) (n := 70) (k2 := (507 + (t).toNat)) hx hb hK hP 2 rfl (by decide) mE_sort rfl ⟨by omega, by omega⟩ (by decide) (if_pos (by omega)) dX10_adds_20 ?_
    refine lv_iload hx hb dX10_adds_21 (lv_at hl 0 rfl) ?_
    refine lv_iload_n hx hb dX10_adds_23 rfl (lv_at hl 3 rfl) ?_
    refine fz_st (k := (507 + (t).toNat)) (n := 900) (i := (μ 719 (t).toNat)) (z := q) hx hb hK hP fA_in hS 0 (by omega) (mE_sortR (by omega)) rfl ⟨by omega, by omega⟩ (by decide) dX10_adds_24 (fun H locs hP hS => ?_)
    obtain ⟨μ1, eμ1⟩ : ∃ x : va_M, x = uz μ (507 + (t).toNat) (μ 719 (t).toNat).toNat (q) := ⟨_, rfl⟩
    rw [← eμ1] at hP
    refine lv_aload_n hx hb dX10_adds_25 rfl (lv_at hl 1 rfl) ?_
    refine fz_get (D := (dC, dI)) (ci := 10) (v := .ref (h0 + 577)) (C := RX10) (T := TX10) (N := 53) hx hb hts inG10 hown hK hP (k := 0) (by decide) (F := mF h0) mE_obj rfl 19 (by decide) (hts _ k1185) (fun _ h9 => h9) rfl dX10_adds_26 ?_
    refine lv_iload_n hx hb dX10_adds_29 rfl (lv_at hl 2 rfl) ?_
    refine fz_ald (k := 577) (n := 70) (k2 := (578 + (t).toNat)) hx hb hK hP 2 rfl (by decide) mE_token rfl ⟨by omega, by omega⟩ (by decide) (if_pos (by omega)) dX10_adds_30 ?_
    refine lv_iload hx hb dX10_adds_31 (lv_at hl 0 rfl) ?_
    refine lv_iload_n hx hb dX10_adds_33 rfl (lv_at hl 4 rfl) ?_
    refine fz_st (k := (578 + (t).toNat)) (n := 900) (i := (μ 719 (t).toNat)) (z := k) hx hb hK hP fA_in hS 0 (by omega) (mE_tokenR (by omega)) rfl ⟨by omega, by omega⟩ (by decide) dX10_adds_34 (fun H locs hP hS => ?_)
    obtain ⟨μ2, eμ2⟩ : ∃ x : va_M, x = uz μ1 (578 + (t).toNat) (μ 719 (t).toNat).toNat (k) := ⟨_, rfl⟩
    rw [← eμ2] at hP
    refine lv_aload_n hx hb dX10_adds_35 rfl (lv_at hl 1 rfl) ?_
    refine fz_get (D := (dC, dI)) (ci := 10) (v := .ref (h0 + 648)) (C := RX10) (T := TX10) (N := 53) hx hb hts inG10 hown hK hP (k := 0) (by decide) (F := mF h0) mE_obj rfl 20 (by decide) (hts _ k1186) (fun _ h9 => h9) rfl dX10_adds_36 ?_
    refine lv_iload_n hx hb dX10_adds_39 rfl (lv_at hl 2 rfl) ?_
    refine fz_ald (k := 648) (n := 70) (k2 := (649 + (t).toNat)) hx hb hK hP 2 rfl (by decide) mE_span rfl ⟨by omega, by omega⟩ (by decide) (if_pos (by omega)) dX10_adds_40 ?_
    refine lv_iload hx hb dX10_adds_41 (lv_at hl 0 rfl) ?_
    refine lv_iconst (v := iZ 1) hx hb dX10_adds_43 rfl ?_
    refine fz_st (k := (649 + (t).toNat)) (n := 900) (i := (μ 719 (t).toNat)) (z := 1) hx hb hK hP fA_in hS 0 (by omega) (mE_spanR (by omega)) rfl ⟨by omega, by omega⟩ (by decide) dX10_adds_44 (fun H locs hP hS => ?_)
    obtain ⟨μ3, eμ3⟩ : ∃ x : va_M, x = uz μ2 (649 + (t).toNat) (μ 719 (t).toNat).toNat (1) := ⟨_, rfl⟩
    rw [← eμ3] at hP
    refine lv_aload_n hx hb dX10_adds_45 rfl (lv_at hl 1 rfl) ?_
    refine fz_get (D := (dC, dI)) (ci := 10) (v := .ref (h0 + 719)) (C := RX10) (T := TX10) (N := 53) hx hb hts inG10 hown hK hP (k := 0) (by decide) (F := mF h0) mE_obj rfl 21 (by decide) (hts _ k1187) (fun _ h9 => h9) rfl dX10_adds_46 ?_
    refine lv_iload_n hx hb dX10_adds_49 rfl (lv_at hl 2 rfl) ?_
    refine lv_dup2_11 hx hb dX10_adds_50 rfl rfl ?_
    refine fz_ld (k := 719) (n := 70) hx hb hK hP 0 (by decide) mE_nodes rfl ⟨by omega, by omega⟩ (by decide) dX10_adds_51 ?_
    rw [show μ3 719 (t).toNat = μ 719 (t).toNat from by rw [eμ3, uz_n (by omega), eμ2, uz_n (by omega), eμ1, uz_n (by omega)]]
    refine lv_iconst (v := iZ 1) hx hb dX10_adds_52 rfl ?_
    refine lv_iadd hx hb dX10_adds_53 ?_
    refine lv_topi (fun x9 ex9 => ?_)
    obtain rfl : x9 = iZ ((μ 719 (t).toNat) + 1) := ex9.trans (iZ_add _ _)
    refine fz_st (k := 719) (n := 70) (i := t) (z := ((μ 719 (t).toNat) + 1)) hx hb hK hP fA_in hS 0 (by decide) mE_nodes rfl ⟨by omega, by omega⟩ (by decide) dX10_adds_54 (fun H locs hP hS => ?_)
    obtain ⟨μ4, eμ4⟩ : ∃ x : va_M, x = uz μ3 719 (t).toNat ((μ 719 (t).toNat) + 1) := ⟨_, rfl⟩
    rw [← eμ4] at hP
    refine lv_iload hx hb dX10_adds_55 (lv_at hl 0 rfl) ?_
    exact W.iret (v := iZ (μ 719 (t).toNat)) hx hb hr (fun t9 ht9 hW9 => ⟨⟨iZ (μ 719 (t).toNat), (μ4, μ 719 (t).toNat), rfl, ⟨rfl, (by
                dsimp only
                first | exact ⟨fun _ => ⟨rfl, rfl⟩, fun h => absurd h (by omega)⟩ | (subst eμ4 eμ3 eμ2 eμ1; exact ⟨fun h => absurd h (by omega), fun _ => ⟨rfl, rfl⟩⟩))⟩, by rw [ht9]; exact hP, va_K.moved hW9.alike hK⟩, hS.F ht9⟩) hS.2.2 dX10_adds_57
  · refine lv_iconst (v := iZ 0) hx hb dX10_adds_5 rfl ?_
    exact W.iret (v := iZ (0)) hx hb hr (fun t9 ht9 hW9 => ⟨⟨iZ (0), (μ, 0), rfl, ⟨rfl, (by
                dsimp only
                first | exact ⟨fun _ => ⟨rfl, rfl⟩, fun h => absurd h (by omega)⟩ | (subst hx; exact ⟨fun h => absurd h (by omega), fun _ => ⟨rfl, rfl⟩⟩))⟩, by rw [ht9]; exact hP, va_K.moved hW9.alike hK⟩, hS.F ht9⟩) hS.2.2 dX10_adds_6
set_option maxHeartbeats 4000000 in
set_option maxRecDepth 100000 in
theorem m_closes (l : Launch) (dC : Nat → ClassId) (dI : Nat → Nat → Nat) (cI cZ cII cIII : ClassId) (h0 sz : Nat) (μ : va_M) (t : Int) (i : Int) (ht : -1 ≤ t ∧ t < 70) (hi : 0 ≤ t → 0 ≤ i ∧ i < 900) : Met l yX10_closes (Cond.code yX10_closes cX10_closes 3 none :: wsG) ({ frames := 1, cells := 0, slots := 0, locals := 14 } : Room) (va_Pc [.ref h0, .int (iZ (t)), .int (iZ (i))] (fun U => U.heap.size = sz ∧ va_P (dC, dI) vwCl (fw (mE cI cZ cII cIII h0) h0 6325 μ) U.heap ∧ va_K (dC, dI) vwCl (mT cI cZ cII cIII) U)) (va_Qv (fun (u : va_M) => (t = -1 → u = μ) ∧ (0 ≤ t → u = uz μ (649 + t.toNat) i.toNat (μ 719 t.toNat - i))) (fun u t => va_P (dC, dI) vwCl (fw (mE cI cZ cII cIII h0) h0 6325 u) t.heap ∧ va_K (dC, dI) vwCl (mT cI cZ cII cIII) t) (fA h0 6325 sz)) 0 0 (fA h0 6325 sz) := by
  refine Met.ofW (cc := cX10_closes) (maxL := 3) (ret := none) (by decide) rfl ?_
  intro p e s m args below meth c s₁ B hml hv
  obtain ⟨rfl, hsz, hP, hK⟩ := hv
  have hx := B.exec
  have hb := B.bytes
  have hr := B.returns
  have hts : ∀ w ∈ wsG, w.before _ s = true := hG_of (atoms_spec (ws := (Cond.code yX10_closes cX10_closes 3 none :: wsG)) B.pre)
  have hown : s.vm.findClass RX10 = some m.cls := findClass_of_methodNamed B.named
  have hlocks := B.notSynchronized
  subst hsz
  have hS : va_S (fA h0 6325 s.heap.size) s.heap s.heap [] := va_S.rf
  have hl := lv_entry ([.ref h0, .int (iZ (t)), .int (iZ (i))]) (n := 3) (Nat.le_of_ble_eq_true rfl)
  rw [lg_entry_eq]
  generalize (lg_sl ([.ref h0, .int (iZ (t)), .int (iZ (i))]) ++ List.replicate (3 - (lg_sl ([.ref h0, .int (iZ (t)), .int (iZ (i))])).length) Slot.unset).toArray = ls at hl ⊢
  have hl : lv_has ls 3 [(0, .ref h0), (1, .int (iZ (t))), (2, .int (iZ (i)))] := hl
  refine lv_iload_n hx hb dX10_closes_0 rfl (lv_at hl 1 rfl) ?_
  refine lv_iconst (v := iZ (-1)) hx hb dX10_closes_1 rfl ?_
  refine fz_icmp_eq (tgt := 21) (by constructor <;> omega) (by decide) hx hb dX10_closes_2 (by decide) (fun c2_ => ?_) (fun c2_ => ?_)
  · exact W.vret hx hb hr (fun t9 ht9 hW9 => ⟨⟨μ, rfl, (by
                try dsimp only
                first | exact ⟨fun _ => rfl, fun h => absurd h (by omega)⟩ | (subst hx; exact ⟨fun h => absurd h (by omega), fun _ => rfl⟩)), by rw [ht9]; exact hP, va_K.moved hW9.alike hK⟩, hS.F ht9⟩) hS.2.2 dX10_closes_21
  · refine lv_aload_n hx hb dX10_closes_5 rfl (lv_at hl 0 rfl) ?_
    refine fz_get (D := (dC, dI)) (ci := 10) (v := .ref (h0 + 648)) (C := RX10) (T := TX10) (N := 53) hx hb hts inG10 hown hK hP (k := 0) (by decide) (F := mF h0) mE_obj rfl 20 (by decide) (hts _ k1186) (fun _ h9 => h9) rfl dX10_closes_6 ?_
    refine lv_iload_n hx hb dX10_closes_9 rfl (lv_at hl 1 rfl) ?_
    refine fz_ald (k := 648) (n := 70) (k2 := (649 + (t).toNat)) hx hb hK hP 2 rfl (by decide) mE_span rfl ⟨by omega, by omega⟩ (by decide) (if_pos (by omega)) dX10_closes_10 ?_
    refine lv_iload_n hx hb dX10_closes_11 rfl (lv_at hl 2 rfl) ?_
    refine lv_aload_n hx hb dX10_closes_12 rfl (lv_at hl 0 rfl) ?_
    refine fz_get (D := (dC, dI)) (ci := 10) (v := .ref (h0 + 719)) (C := RX10) (T := TX10) (N := 53) hx hb hts inG10 hown hK hP (k := 0) (by decide) (F := mF h0) mE_obj rfl 21 (by decide) (hts _ k1187) (fun _ h9 => h9) rfl dX10_closes_13 ?_
    refine lv_iload_n hx hb dX10_closes_16 rfl (lv_at hl 1 rfl) ?_
    refine fz_ld (k := 719) (n := 70) hx hb hK hP 0 (by decide) mE_nodes rfl ⟨by omega, by omega⟩ (by decide) dX10_closes_17 ?_
    refine lv_iload_n hx hb dX10_closes_18 rfl (lv_at hl 2 rfl) ?_
    refine lv_isub hx hb dX10_closes_19 ?_
    refine lv_topi (fun x9 ex9 => ?_)
    obtain rfl : x9 = iZ ((μ 719 (t).toNat) - i) := ex9.trans (iZ_sub _ _)
    refine fz_st (k := (649 + (t).toNat)) (n := 900) (i := i) (z := ((μ 719 (t).toNat) - i)) hx hb hK hP fA_in hS 0 (by omega) (mE_spanR (by omega)) rfl ⟨by omega, by omega⟩ (by decide) dX10_closes_20 (fun H locs hP hS => ?_)
    obtain ⟨μ1, eμ1⟩ : ∃ x : va_M, x = uz μ (649 + (t).toNat) (i).toNat ((μ 719 (t).toNat) - i) := ⟨_, rfl⟩
    rw [← eμ1] at hP
    exact W.vret hx hb hr (fun t9 ht9 hW9 => ⟨⟨μ1, rfl, (by
                try dsimp only
                first | exact ⟨fun _ => rfl, fun h => absurd h (by omega)⟩ | (subst eμ1; exact ⟨fun h => absurd h (by omega), fun _ => rfl⟩)), by rw [ht9]; exact hP, va_K.moved hW9.alike hK⟩, hS.F ht9⟩) hS.2.2 dX10_closes_21

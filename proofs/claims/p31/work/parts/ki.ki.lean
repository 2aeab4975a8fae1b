/-! both sides between the law's calls: the skeleton and its steps back, too -/
theorem rowT_Aq (T : List Tk) : ∀ S : List Int, (∀ (k : Nat) (e : Int), S[k]? = some e → 0 ≤ e ∧ e < 200) → rAq (rowT T S)
  | [], _ => trivial
  | e :: S, h => by
    have h0 := h 0 e rfl
    have hk := kdT_lt T e
    have ih := rowT_Aq T S (fun k x hk => h (k + 1) x hk)
    refine ⟨fun h4 => by omega, fun h1 h2 => ?_, trivial, ih⟩
    by_cases hz : kdT T e = 0
    · refine ⟨hz, ?_⟩
      have e1 : crI (kdT T e) e Std.DTreeMap.Internal.Impl.leaf = e := by unfold crI; rw [if_pos hz]
      rw [e1] at h2
      cases S with
      | nil =>
        have h2 : e = -5 := h2
        omega
      | cons e2 S2 =>
        have h2 : e = crI (kdT T e2) e2 Std.DTreeMap.Internal.Impl.leaf := h2
        by_cases hz2 : kdT T e2 = 0
        · exact ⟨0, e2, .leaf, rowT T S2, by rw [rowT, hz2]⟩
        · have hk2 := kdT_lt T e2
          have e3 : crI (kdT T e2) e2 Std.DTreeMap.Internal.Impl.leaf = -5 := by unfold crI; rw [if_neg hz2, if_neg (by omega)]
          omega
    · exfalso
      have e1 : crI (kdT T e) e Std.DTreeMap.Internal.Impl.leaf = -5 := by unfold crI; rw [if_neg hz, if_neg (by omega)]
      omega
theorem rowT_lv (T : List Tk) : ∀ (S : List Int) (m z k : Nat) (v : Int) (l r : Rw), rdrop m (rowT T S) = .inner z k v l r → k < 3
  | [], 0, z, k, v, l, r, h => by cases h
  | [], m + 1, z, k, v, l, r, h => by cases h
  | e :: S, 0, z, k, v, l, r, h => by
    have hk := kdT_lt T e
    have h : (Std.DTreeMap.Internal.Impl.inner 0 (kdT T e) e .leaf (rowT T S) : Rw) = .inner z k v l r := h
    cases h
    omega
  | e :: S, m + 1, z, k, v, l, r, h => rowT_lv T S m z k v l r h
/-- a page's row, as both sides hold it -/
def pgK (μ ν : va_M) (a : Int) (b : Rw) : Prop := 0 ≤ a ∧ a < ν 0 10 → rowS μ (113 + a.toNat * 15 + 3) b ∧ TR ν (17 + a.toNat) b ∧ rPage b ∧ 1 ≤ rI b ∧ pH b
/-- rows kept -/
def JKs (W : Rw) (Bs : List Rw) : Prop := JK W ∧ ∀ (i : Nat) (B : Rw), Bs[i]? = some B → JK B
def LKt (T : List Tk) (Ss : List (List Int)) (W : Rw) (Bs : List Rw) (μ ν : va_M) : Prop := LRt T Ss μ ν ∧ SKc W Bs μ ∧ SKr W Bs ν ∧ JKs W Bs ∧ Bs.length ≤ 16
theorem LK_J {T : List Tk} {Ss : List (List Int)} {W : Rw} {Bs : List Rw} {μ ν : va_M} (h : LKt T Ss W Bs μ ν) : SKJ JS W Bs ν := ⟨h.2.2.1, JK_JS h.2.2.2.1.1, fun i B hB => JK_JS (h.2.2.2.1.2 i B hB), h.2.2.2.2⟩
theorem LK_start9 {u : va_M} (hf : fr (fun x _ => x = 110) sI u) (h5 : ∀ j : Nat, j < 60 → u 110 j = 516) : ∃ (T : List Tk) (Ss : List (List Int)), LKt T Ss .leaf [] (nz u) mI := by
  obtain ⟨T, Ss, h⟩ := LR_start hf h5
  have e : ∀ x y, ¬ Zc x y → ¬ ((x = 1 ∧ y = 6) ∨ ((113 ≤ x ∧ (x - 113) % 15 = 10) ∧ y = 0) ∨ (x = 41 ∧ y = 3)) → x ≠ 110 → nz u x y = 0 := fun x y h0 h1 h2 => (nz_n h0).trans ((hf x y h2).trans (sI_0 h1))
  have e6 : ∀ x y, (6 ≤ x ∧ x < 12) ∨ (18 ≤ x ∧ x < 37) → nz u x y = 0 := fun x y q => e x y (by unfold Zc; omega) (by omega) (by omega)
  refine ⟨T, Ss, h, ⟨⟨⟨(e6 6 5 (by decide)).trans rfl, (e6 6 6 (by decide)).trans rfl, (e6 9 0 (by decide)).trans rfl⟩, trivial, trivial⟩, pstX_0 (e6 18 4 (by decide))⟩, ⟨⟨(mI_0 (by decide)).trans rfl, trivial⟩, ⟨fun _ => rfl, fun _ => mI_0 (by decide)⟩, (mI_0 (by decide)).trans rfl, fun i B hB => by simp at hB⟩, ⟨JK_0, fun i B hB => by simp at hB⟩, Nat.zero_le _⟩
theorem LRt_sp {T : List Tk} {Ss : List (List Int)} {μ ν u : va_M} (h : LRt T Ss μ ν) (k1 : CI T u) (k2 : SP μ u) : LRt T Ss u ν := by
  have h8 := LQt_8 h.1
  refine ⟨?_, PF9_fr h.1.2 h.2 h8 (fun x y q1 q2 => k2 x y (by omega)) (fun x y _ => rfl)⟩
  obtain ⟨⟨h1, h2, h3, h4, h5, h6, h7⟩, h9⟩ := h.1
  exact ⟨⟨k1, h2, h3, h4, by rw [k2 1 1 (by omega)]; exact h5, by rw [k2 0 2 (by omega)]; exact h6, fun j hj => by rw [k2 2 j (by omega)]; exact h7 j hj⟩, PT9_fr h9 h8 (k2 0 2 (by omega)) (fun x y q1 q2 => k2 x y (by omega)) (fun x y _ _ => rfl)⟩
section LKs
variable {T : List Tk} {Ss : List (List Int)} {W : Rw} {Bs : List Rw} {μ ν u v : va_M}
theorem LKt_c (h : LKt T Ss W Bs μ ν) (hu : CI T u ∧ SZ μ u) : LKt T Ss W Bs u ν := ⟨LRt_c h.1 hu, SKc_fr h.2.1 (fun x y q => hu.2 x y (by omega)), h.2.2⟩
theorem LKt_ps (h : LKt T Ss W Bs μ ν) (hg : fr PS ν v ∧ (v 0 0 = 0 ∨ v 0 0 = 1 ∨ v 0 0 = 2)) : LKt T Ss W Bs μ v := ⟨LRt_ps h.1 hg, h.2.1, SKr_PS h.2.2.1 h.2.2.2.2 hg.1, h.2.2.2⟩
theorem LKt_mk (h : LKt T Ss W Bs μ ν) (hg : GE JS ν v ∧ SKr W Bs v) : LKt T Ss W Bs μ v := ⟨LRt_m h.1 hg.1, h.2.1, hg.2, h.2.2.2⟩
/-- lay, as the class leaves it -/
def KLy (μ : va_M) (W : Rw) (Bs : List Rw) (b : Rw) (pg : Int) (u : va_M) : Prop := SP μ u ∧ (((0 ≤ pg ∧ pg < μ 0 2) ∧ rL (lyW W b) ≤ 160 ∧ SKc (lyW W b) (W :: Bs.take 15) u) ∨ (¬ ((0 ≤ pg ∧ pg < μ 0 2) ∧ rL (lyW W b) ≤ 160) ∧ SZ μ u))
theorem JKs_cons {X : Rw} (h : JKs W Bs) (hX : JK X) : JKs X (W :: Bs.take 15) := ⟨hX, JBs_cons h.1 h.2⟩
theorem LKt_lay9 {pg q : Int} {b : Rw} (h : LKt T Ss W Bs μ ν) (hb : pgK μ ν pg b) (hI : CI T u) (hk : KLy μ W Bs b pg u) (hm : GE JS ν v ∧ v 0 0 = cd2 (0 ≤ pg ∧ pg < ν 0 10) (rL (lyW W b) ≤ 160) ∧ (cd2 (0 ≤ pg ∧ pg < ν 0 10) (rL (lyW W b) ≤ 160) = 0 → q = lyC W b ∧ SKr (lyW W b) (W :: Bs.take 15) v) ∧ (¬ cd2 (0 ≤ pg ∧ pg < ν 0 10) (rL (lyW W b) ≤ 160) = 0 → SKr W Bs v)) : ∃ (X : Rw) (Bx : List Rw), LKt T Ss X Bx u v ∧ ((X = lyW W b ∧ Bx = W :: Bs.take 15 ∧ (0 ≤ pg ∧ pg < ν 0 10)) ∨ (X = W ∧ Bx = Bs)) := by
  have e6 := h.1.1.1.2.2.2.2.2.1
  obtain ⟨m1, m2, m3, m4⟩ := hm
  have hL := LRt_m (LRt_sp h.1 hI hk.1) m1
  rcases hk.2 with ⟨a1, a2, a3⟩ | ⟨a1, a2⟩
  · rw [e6] at a1
    have hc := cd2_0 a1 a2
    obtain ⟨-, -, b3, b4, b5⟩ := hb a1
    exact ⟨_, _, ⟨hL, a3, (m3 hc).2, JKs_cons h.2.2.2.1 (JK_ly2 h.2.2.2.1.1 b3 b5 a2), len_cons W Bs⟩, Or.inl ⟨rfl, rfl, a1⟩⟩
  · rw [e6] at a1
    have hc : ¬ cd2 (0 ≤ pg ∧ pg < ν 0 10) (rL (lyW W b) ≤ 160) = 0 := fun h9 => a1 (cd2_of h9)
    exact ⟨W, Bs, ⟨hL, SKc_fr h.2.1 (fun x y q => a2 x y (by omega)), m4 hc, h.2.2.2⟩, Or.inr ⟨rfl, rfl⟩⟩
theorem LKt_tidy9 {r q : Int} (h : LKt T Ss W Bs μ ν) (hc : CI T u ∧ SP μ u ∧ ∃ (w2 : Rw) (n : Nat), tdy W w2 n ∧ r = n ∧ ((r = 0 ∧ SKc W Bs u) ∨ (¬ r = 0 ∧ SKc w2 (W :: Bs.take 15) u))) (hm : GE JS ν v ∧ v 0 0 = 0 ∧ ∃ (w2 : Rw) (n : Nat), tdy W w2 n ∧ q = n ∧ ((q = 0 ∧ SKr W Bs v) ∨ (¬ q = 0 ∧ SKr w2 (W :: Bs.take 15) v ∧ JS w2))) : r = q ∧ ∃ (X : Rw) (Bx : List Rw), LKt T Ss X Bx u v ∧ ((X = W ∧ Bx = Bs) ∨ ((∃ n : Nat, tdy W X n) ∧ Bx = W :: Bs.take 15)) := by
  obtain ⟨c1, c2, w2, n, t1, t2, t3⟩ := hc
  obtain ⟨m1, -, w3, n3, s1, s2, s3⟩ := hm
  obtain ⟨e1, e2⟩ := tdy_u t1 s1
  subst e1 e2
  have hL := LRt_m (LRt_sp h.1 c1 c2) m1
  have hJ := h.2.2.2.1.1
  refine ⟨by omega, ?_⟩
  rcases t3 with ⟨a1, a2⟩ | ⟨a1, a2⟩
  · rcases s3 with ⟨b1, b2⟩ | ⟨b1, b2, -⟩
    · exact ⟨W, Bs, ⟨hL, a2, b2, h.2.2.2⟩, Or.inl ⟨rfl, rfl⟩⟩
    · omega
  · rcases s3 with ⟨b1, b2⟩ | ⟨b1, b2, -⟩
    · omega
    · exact ⟨_, _, ⟨hL, a2, b2, JKs_cons h.2.2.2.1 (JK_TQ hJ (tdy_TQ hJ.1.1 hJ.1.2.1 t1)), len_cons W Bs⟩, Or.inr ⟨⟨n, t1⟩, rfl⟩⟩
theorem LKt_undo9 {r q : Int} (h : LKt T Ss W Bs μ ν) (hc : CI T u ∧ SP μ u ∧ r = udR Bs ∧ SKc (udW W Bs) Bs.tail u) (hm : GE JS ν v ∧ v 0 0 = 0 ∧ q = udR Bs ∧ SKr (udW W Bs) Bs.tail v) : r = q ∧ LKt T Ss (udW W Bs) Bs.tail u v := by
  obtain ⟨c1, c2, c3, c4⟩ := hc
  obtain ⟨m1, -, m3, m4⟩ := hm
  have hL := LRt_m (LRt_sp h.1 c1 c2) m1
  refine ⟨c3.trans m3.symm, hL, c4, m4, ?_, ?_⟩
  · cases Bs with
    | nil => exact h.2.2.2.1
    | cons B Bt => exact ⟨h.2.2.2.1.2 0 B rfl, fun i C hC => h.2.2.2.1.2 (i + 1) C hC⟩
  · have h9 := h.2.2.2.2
    cases Bs with
    | nil => exact h9
    | cons B Bt =>
      rw [List.length_cons] at h9
      show Bt.length ≤ 16
      omega
theorem LKt_clear9 {r q : Int} (h : LKt T Ss W Bs μ ν) (hc : CI T u ∧ SP μ u ∧ r = rL W ∧ SKc .leaf [] u) (hm : GE JS ν v ∧ v 0 0 = 0 ∧ q = rL W ∧ SKr .leaf [] v) : r = q ∧ LKt T Ss .leaf [] u v := by
  obtain ⟨c1, c2, c3, c4⟩ := hc
  obtain ⟨m1, -, m3, m4⟩ := hm
  exact ⟨c3.trans m3.symm, LRt_m (LRt_sp h.1 c1 c2) m1, c4, m4, ⟨JK_0, fun i B hB => by simp at hB⟩, Nat.zero_le _⟩
/-- what the calls of lay, tidy, undo ask -/
theorem LK_cl {pg : Int} {b : Rw} (h : LKt T Ss W Bs μ ν) (hb : pgK μ ν pg b) (ha : 0 ≤ pg ∧ pg < μ 0 2) : rowS μ (113 + pg.toNat * 15 + 3) b ∧ (rWF b ∧ rPg b ∧ rN W + rN b ≤ 1800) ∧ (rL (lyW W b) ≤ 160 → sL (lyW W b) ≤ 1100) := by
  have e6 := h.1.1.1.2.2.2.2.2.1
  obtain ⟨b1, b2, b3, b4, b5⟩ := hb (by omega)
  have hJ := h.2.2.2.1.1
  exact ⟨b1, ⟨b3.1, b3.2.1.1, rN_18 hJ b3⟩, fun h9 => JK_s (JK_ly2 hJ b3 b5 h9)⟩
theorem LK_cw {pg : Int} {b : Rw} (h : LKt T Ss W Bs μ ν) (hb : pgK μ ν pg b) (ha : 0 ≤ pg ∧ pg < μ 0 2) : rWF (lyW W b) := by
  have e6 := h.1.1.1.2.2.2.2.2.1
  obtain ⟨b1, b2, b3, b4, b5⟩ := hb (by omega)
  exact (JK_ly h.2.2.2.1.1 b3 b5).1
theorem LK_rl {pg : Int} {b : Rw} (hb : pgK μ ν pg b) (ha : 0 ≤ pg ∧ pg < ν 0 10) : TR ν (17 + pg.toNat) b ∧ rPage b ∧ 1 ≤ rI b := by
  obtain ⟨b1, b2, b3, b4, b5⟩ := hb ha
  exact ⟨b2, b3, b4⟩
theorem LK_W (h : LKt T Ss W Bs μ ν) : rWF W := h.2.2.2.1.1.1.1
theorem LK_A (h : LKt T Ss W Bs μ ν) : rAd W := h.2.2.2.1.1.1.2.1
theorem LK_cap (h : LKt T Ss W Bs μ ν) (y : Rw) (hy : TQ W y) : (sL y : Int) ≤ (1100 : Nat) := Int.ofNat_le.mpr (JK_s (JK_TQ h.2.2.2.1.1 hy))
theorem LK_td (h : LKt T Ss W Bs μ ν) (y : Rw) (n : Nat) (hy : tdy W y n) : rWF y := ((tdy_TQ (LK_W h) (LK_A h) hy).1 (LK_W h) (LK_A h)).1
theorem LK_n (h : LKt T Ss W Bs μ ν) (y : Rw) (n : Nat) (hy : tdy W y n) : n ≤ 1200 := by
  have h1 := tdy_n (LK_W h) (LK_A h) hy
  have h2 := JWq_n h.2.2.2.1.1.1
  have h3 := h.2.2.2.1.1.2
  omega
theorem LK_Bs (h : LKt T Ss W Bs μ ν) (i : Nat) (B : Rw) (hB : Bs[i]? = some B) : rWF B ∧ sL B ≤ 1100 := ⟨(h.2.2.2.1.2 i B hB).1.1, JK_s (h.2.2.2.1.2 i B hB)⟩
theorem JS_rAd (w : Rw) (h : JS w) : rAd w := h.1.2.1
end LKs
theorem LKt_feed {T : List Tk} {Ss : List (List Int)} {W : Rw} {Bs : List Rw} {μ ν u v : va_M} {a1 a2 a3 a4 a5 r r2 : Int} (h : LKt T Ss W Bs μ ν) (hc : (μ 1 1 + 20 > 400 → u = μ ∧ r = -1) ∧ (μ 1 1 + 20 ≤ 400 → u 1 1 = μ 1 1 + 20 ∧ r = μ 1 1 + 20 ∧ fr (fun x y => (x = 1 ∧ y = 1) ∨ x = 2) μ u ∧ ∀ j : Nat, u 2 j = if μ 1 1 ≤ j ∧ (j : Int) < μ 1 1 + 20 then bz (argO a1 a2 a3 a4 a5 (j - μ 1 1)) ((j - μ 1 1) % 4) else μ 2 j)) (hm : (ν 0 2 + 20 > 400 → v = uz ν 0 0 0 ∧ r2 = -1) ∧ (ν 0 2 + 20 ≤ 400 → v 0 2 = ν 0 2 + 20 ∧ r2 = ν 0 2 + 20 ∧ v 0 0 = 0 ∧ fr (fun x y => (x = 0 ∧ (y = 0 ∨ y = 2)) ∨ x = 2) ν v ∧ ∀ j : Nat, j < 400 → v 2 j = if ν 0 2 ≤ j ∧ (j : Int) < ν 0 2 + 20 then bz (argO a1 a2 a3 a4 a5 (j - ν 0 2)) ((j - ν 0 2) % 4) else ν 2 j)) : r = r2 ∧ LKt T Ss W Bs u v := by
  have h0 := LRt_feed h.1 hc hm
  refine ⟨h0.1, h0.2, SKc_fr h.2.1 (fun x y q => ?_), ?_, h.2.2.2⟩
  · by_cases hq : μ 1 1 + 20 > 400
    · rw [(hc.1 hq).1]
    · exact (hc.2 (by omega)).2.2.1 x y (by omega)
  · by_cases hq : ν 0 2 + 20 > 400
    · rw [(hm.1 hq).1]
      exact SKr_fr (P := fun x y => x = 0 ∧ y = 0) h.2.2.1 h.2.2.2.2 (fr_uz fr_rfl ⟨rfl, rfl⟩) (fun x y q => by omega)
    · exact SKr_fr h.2.2.1 h.2.2.2.2 (hm.2 (by omega)).2.2.2.1 (fun x y q => by omega)
/-- what the class's page leaves; the skeleton stays -/
def PKC (T : List Tk) (μ : va_M) (n : Int) (u : va_M) : Prop := PRC T μ n u ∧ ∀ x y, (6 ≤ x ∧ x < 12) ∨ (18 ≤ x ∧ x < 37) → u x y = μ x y
theorem LKt_page9 {T : List Tk} {Ss : List (List Int)} {W : Rw} {Bs : List Rw} {μ ν u v : va_M} {n : Int} (h : LKt T Ss W Bs μ ν) (hc : PKC T μ n u) (hm : ((n < 0 ∨ ν 0 2 < n ∨ ν 0 10 = 8) → fr (fun x y => (x = 0 ∧ y = 0) ∨ x = 1) ν v ∧ (v 0 0 = 1 ∨ v 0 0 = 2)) ∧ (0 ≤ n → n ≤ ν 0 2 → ν 0 10 < 8 → v 0 0 = 0 ∧ v 0 2 = 0 ∧ (∀ j : Nat, j < 201 → inR (v 3 j)) ∧ (pg (bAn ν n) n 0 T [] = none → v 0 10 = ν 0 10 ∧ tabR v T ∧ fr (PGf (ν 0 10).toNat T.length) ν v) ∧ ∀ (T2 : List Tk) (S : List Int), pg (bAn ν n) n 0 T [] = some (T2, S) → v 0 10 = ν 0 10 + 1 ∧ tabR v T2 ∧ tabW T2 ∧ T.length ≤ T2.length ∧ pgR v (ν 0 10).toNat T2 S ∧ fr (PGs (ν 0 10).toNat T.length) ν v ∧ ∃ (l9 : List (Nat × Nat × Nat)) (w : Rw), fldR v (ν 0 10).toNat T2 S l9 w)) : ∃ (T2 : List Tk) (Ss2 : List (List Int)), LKt T2 Ss2 W Bs u v := by
  obtain ⟨T2, Ss2, k1⟩ := LRt_page h.1 hc.1 hm
  refine ⟨T2, Ss2, k1, SKc_fr h.2.1 hc.2, ?_, h.2.2.2⟩
  have h10 := h.1.1.1.2.1.1.1
  by_cases c : 0 ≤ n ∧ n ≤ ν 0 2 ∧ ν 0 10 < 8
  · obtain ⟨n1, n2, n3, n4, n5⟩ := hm.2 c.1 c.2.1 c.2.2
    cases hp : pg (bAn ν n) n 0 T [] with
    | none =>
      have k := (n4 hp).2.2
      exact SKr_fr h.2.2.1 h.2.2.2.2 k (fun x y q => by unfold PGf PR PN; omega)
    | some p =>
      obtain ⟨T3, S3⟩ := p
      have k := (n5 T3 S3 hp).2.2.2.2.2.1
      exact SKr_fr h.2.2.1 h.2.2.2.2 k (fun x y q => by unfold PGs PGf PR PN FF FQ FP P8 PT; omega)
  · have k := (hm.1 (by omega)).1
    exact SKr_fr h.2.2.1 h.2.2.2.2 k (fun x y q => by omega)

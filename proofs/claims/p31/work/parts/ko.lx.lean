/-! the skeleton's tags and words are told by the reference's table: what both sides hold, for walks -/
/-- what sort the skeleton's tags and words are, by the reference's table -/
def kR (ν : va_M) (k : Nat) (v : Int) : Prop := (0 ≤ v ∧ v < ν 0 9) ∧ (k = 1 ↔ ν 3 v.toNat = 2)
/-- a token's code -/
def cdR (ν : va_M) (e : Int) : Int := if ν 3 e.toNat = 2 then 256 + e else e
theorem tk_kR {ν : va_M} {x k : Nat} {v e : Int} (hk : k < 3) (n1 : nod ν x = k) (n2 : ν 578 (ν 4412 x).toNat = v) (h : k < 2 → kR ν k v) (he : 0 ≤ e ∧ e < 200) (hv : k < 2 → v < 200) : tkD ν x e = tkI (sG k v) (cdR ν e) := by
  unfold tkD tkI cdR
  rw [n1, n2]
  by_cases h2 : k = 2
  · rw [if_pos (by omega)]
    subst h2
    rw [show sG 2 v = 512 from rfl]
    by_cases h3 : ν 3 e.toNat = 2
    · rw [if_pos h3, if_pos h3, if_pos (by omega)]
    · rw [if_neg h3, if_neg h3, if_neg (by omega)]
  · rw [if_neg (by omega)]
    obtain ⟨⟨a1, a2⟩, a3⟩ := h (by omega)
    have hv9 := hv (by omega)
    by_cases h1 : k = 1
    · subst h1
      have a4 := a3.mp rfl
      rw [show sG 1 v = 256 + v from rfl]
      by_cases h3 : v = e
      · rw [if_pos h3, ← h3, if_pos a4, if_pos (Or.inl rfl)]
      · rw [if_neg h3]
        by_cases h4 : ν 3 e.toNat = 2
        · rw [if_pos h4, if_neg (by omega)]
        · rw [if_neg h4, if_neg (by omega)]
    · have h0 : k = 0 := by omega
      subst h0
      have a4 : ¬ ν 3 v.toNat = 2 := fun h9 => h1 (a3.mpr h9)
      rw [show sG 0 v = v from rfl]
      by_cases h3 : v = e
      · rw [if_pos h3, ← h3, if_neg a4, if_pos (Or.inl rfl)]
      · rw [if_neg h3]
        by_cases h4 : ν 3 e.toNat = 2
        · rw [if_pos h4, if_neg (by omega)]
        · rw [if_neg h4, if_neg (by omega)]
theorem AL_v : ∀ w : Rw, rWF w → AL (fun _ v => v < 200) w
  | .leaf, _ => trivial
  | .inner z k v l r, ⟨f1, f2, f3, f4, f5, f6, f7, f8⟩ => ⟨fun _ => f5, AL_v l f7, AL_v r f8⟩
def WX (W : Rw) (Bs : List Rw) (ν : va_M) : Prop := AL (kR ν) W ∧ ∀ (i : Nat) (B : Rw), Bs[i]? = some B → AL (kR ν) B
def LWt (T : List Tk) (Ss : List (List Int)) (W : Rw) (Bs : List Rw) (μ ν : va_M) : Prop := LKt T Ss W Bs μ ν ∧ WX W Bs ν
def LW9 (μ ν : va_M) : Prop := ∃ (T : List Tk) (Ss : List (List Int)) (W : Rw) (Bs : List Rw), LWt T Ss W Bs μ ν
theorem kR_fr {P : Nat → Nat → Prop} {ν u : va_M} (hf : fr P ν u) (h9 : ¬ P 0 9) (h3 : ∀ j, ¬ P 3 j) : ∀ k v, kR ν k v → kR u k v := fun k v h => by
  unfold kR at h ⊢
  rw [hf 0 9 h9, hf 3 _ (h3 _)]
  exact h
theorem WX_mono {W : Rw} {Bs : List Rw} {ν u : va_M} (h : WX W Bs ν) (hk : ∀ k v, kR ν k v → kR u k v) : WX W Bs u := ⟨AL_mono hk W h.1, fun i B hB => AL_mono hk B (h.2 i B hB)⟩
theorem kR_kf {ν u : va_M} (hf : fr KF ν u) : ∀ k v, kR ν k v → kR u k v := kR_fr hf (by unfold KF PS PT BF; omega) (fun j => by unfold KF PS PT BF; omega)
theorem LW_start {u : va_M} (hf : fr (fun x _ => x = 110) sI u) (h5 : ∀ j : Nat, j < 60 → u 110 j = 516) : LW9 (nz u) mI := by
  obtain ⟨T, Ss, h⟩ := LK_start9 hf h5
  exact ⟨T, Ss, .leaf, [], h, trivial, fun i B hB => by simp at hB⟩
theorem AL_ly {P : Nat → Int → Prop} {W b : Rw} (hN : rN W + rN b ≤ 1800) (h1 : rWF W) (h2 : rWF b) (h3 : rPg b) (hA : AL P W) (hB : AL P b) : AL P (lyW W b) := by
  cases W with
  | leaf => exact hB
  | inner z k v l r => exact AL_lay hN h1 h2 h3 hA hB
/-- a page's row, as both sides hold it, with its sorts -/
def pgW (μ ν : va_M) (a : Int) (b : Rw) : Prop := pgK μ ν a b ∧ (0 ≤ a ∧ a < ν 0 10 → AL (kR ν) b)
theorem kdT_kR {T : List Tk} {ν : va_M} {e : Int} (h : tabR ν T) (h0 : 0 ≤ e ∧ e < T.length) : kR ν (kdT T e) e := by
  obtain ⟨h1, -, h3⟩ := h
  have hl : e.toNat < T.length := by omega
  have hg : T[e.toNat]? = some (T[e.toNat]'hl) := List.getElem?_eq_getElem hl
  have h4 := (h3 _ _ hg).1
  refine ⟨⟨h0.1, by omega⟩, ?_⟩
  unfold kdT
  rw [hg, h4]
  show (if (T[e.toNat]'hl).1 = 2 then 1 else 0) = 1 ↔ _
  by_cases h5 : (T[e.toNat]'hl).1 = 2
  · rw [if_pos h5]
    exact ⟨fun _ => h5, fun _ => rfl⟩
  · rw [if_neg h5]
    exact ⟨fun h9 => by omega, fun h9 => absurd h9 h5⟩
theorem AL_rowR {T : List Tk} {ν : va_M} (h : tabR ν T) : ∀ S : List Int, (∀ (k : Nat) (e : Int), S[k]? = some e → 0 ≤ e ∧ e < T.length) → AL (kR ν) (rowT T S)
  | [], _ => trivial
  | e :: S, hS => ⟨fun _ => kdT_kR h (hS 0 e rfl), trivial, AL_rowR h S (fun k x hx => hS (k + 1) x hx)⟩
theorem pg_W {T : List Tk} {Ss : List (List Int)} {μ ν : va_M} (h : LRt T Ss μ ν) (a : Int) : ∃ b : Rw, pgW μ ν a b := by
  obtain ⟨S, l, w, hp⟩ := pf_ex h a
  refine ⟨w, fun ha => ?_, fun ha => ?_⟩
  · obtain ⟨hs, ⟨g1, -, -⟩, h1, h2, h3, h4, h5, -⟩ := hp ha
    have hb : ∀ (k : Nat) (e : Int), S[k]? = some e → 0 ≤ e ∧ e < 200 := fun k e hk => by
      have i1 := (h.1.2.2 a.toNat S hs).2.1 k e hk
      have i2 := h.1.1.2.2.1.2.1
      omega
    exact ⟨g1, h3, h1, h2, page_H (rowT_Pre T S hb).1 (rowT_Aq T S hb) (rowT_lv T S) h4 h5⟩
  · obtain ⟨hs, -, -, -, -, h4, -⟩ := hp ha
    exact AL_fSt l _ _ (AL_rowR h.1.1.2.2.1 S (h.1.2.2 a.toNat S hs).2.1) h4
section LWs
variable {T : List Tk} {Ss : List (List Int)} {W : Rw} {Bs : List Rw} {μ ν u v : va_M}
theorem LWt_c (h : LWt T Ss W Bs μ ν) (hu : CI T u ∧ SZ μ u) : LWt T Ss W Bs u ν := ⟨LKt_c h.1 hu, h.2⟩
theorem LWt_ps (h : LWt T Ss W Bs μ ν) (hg : fr PS ν v ∧ (v 0 0 = 0 ∨ v 0 0 = 1 ∨ v 0 0 = 2)) : LWt T Ss W Bs μ v := ⟨LKt_ps h.1 hg, WX_mono h.2 (kR_fr hg.1 (by unfold PS; omega) (fun j => by unfold PS; omega))⟩
theorem LWt_uz {r : Int} {P : Prop} (h : LWt T Ss W Bs μ ν) (hg : v = uz ν 0 0 0 ∧ P) : LWt T Ss W Bs μ v := LWt_ps h (by rw [hg.1]; exact ⟨fr_uz fr_rfl (by unfold PS; omega), Or.inl uz_s⟩)
theorem LWt_mk (h : LWt T Ss W Bs μ ν) (hg : GE JS ν v ∧ SKr W Bs v) : LWt T Ss W Bs μ v := ⟨LKt_mk h.1 hg, WX_mono h.2 (kR_kf hg.1.1)⟩
theorem WX_cons {X : Rw} (h : WX W Bs ν) (hX : AL (kR ν) X) : WX X (W :: Bs.take 15) ν := ⟨hX, fun i B hB => by
  cases i with
  | zero =>
    obtain rfl : W = B := Option.some.inj hB
    exact h.1
  | succ i => exact h.2 i B (tk_get 15 Bs i B hB).2⟩
theorem LWt_lay {pg q : Int} {b : Rw} (h : LWt T Ss W Bs μ ν) (hb : pgW μ ν pg b) (hI : CI T u) (hk : KLy μ W Bs b pg u) (hm : GE JS ν v ∧ v 0 0 = cd2 (0 ≤ pg ∧ pg < ν 0 10) (rL (lyW W b) ≤ 160) ∧ (cd2 (0 ≤ pg ∧ pg < ν 0 10) (rL (lyW W b) ≤ 160) = 0 → q = lyC W b ∧ SKr (lyW W b) (W :: Bs.take 15) v) ∧ (¬ cd2 (0 ≤ pg ∧ pg < ν 0 10) (rL (lyW W b) ≤ 160) = 0 → SKr W Bs v)) : LW9 u v := by
  obtain ⟨X, Bx, k, e⟩ := LKt_lay9 h.1 hb.1 hI hk hm
  refine ⟨T, Ss, X, Bx, k, WX_mono ?_ (kR_kf hm.1.1)⟩
  rcases e with ⟨e1, e2, e3⟩ | ⟨e1, e2⟩
  · rw [e1, e2]
    obtain ⟨-, -, b3, b4, b5⟩ := hb.1 e3
    exact WX_cons h.2 (AL_ly (rN_18 h.1.2.2.2.1.1 b3) (LK_W h.1) b3.1 b3.2.1.1 h.2.1 (hb.2 e3))
  · rw [e1, e2]
    exact h.2
theorem LWt_tidy {r q : Int} (h : LWt T Ss W Bs μ ν) (hc : CI T u ∧ SP μ u ∧ ∃ (w2 : Rw) (n : Nat), tdy W w2 n ∧ r = n ∧ ((r = 0 ∧ SKc W Bs u) ∨ (¬ r = 0 ∧ SKc w2 (W :: Bs.take 15) u))) (hm : GE JS ν v ∧ v 0 0 = 0 ∧ ∃ (w2 : Rw) (n : Nat), tdy W w2 n ∧ q = n ∧ ((q = 0 ∧ SKr W Bs v) ∨ (¬ q = 0 ∧ SKr w2 (W :: Bs.take 15) v ∧ JS w2))) : r = q ∧ LW9 u v := by
  obtain ⟨e0, X, Bx, k, e⟩ := LKt_tidy9 h.1 hc hm
  refine ⟨e0, T, Ss, X, Bx, k, WX_mono ?_ (kR_kf hm.1.1)⟩
  rcases e with ⟨e1, e2⟩ | ⟨⟨n, e1⟩, e2⟩
  · rw [e1, e2]
    exact h.2
  · rw [e2]
    exact WX_cons h.2 (AL_tdy h.2.1 e1)
theorem LWt_undo {r q : Int} (h : LWt T Ss W Bs μ ν) (hc : CI T u ∧ SP μ u ∧ r = udR Bs ∧ SKc (udW W Bs) Bs.tail u) (hm : GE JS ν v ∧ v 0 0 = 0 ∧ q = udR Bs ∧ SKr (udW W Bs) Bs.tail v) : r = q ∧ LW9 u v := by
  obtain ⟨e0, k⟩ := LKt_undo9 h.1 hc hm
  refine ⟨e0, T, Ss, _, _, k, WX_mono ?_ (kR_kf hm.1.1)⟩
  have hx := h.2
  cases Bs with
  | nil => exact hx
  | cons B Bt => exact ⟨hx.2 0 B rfl, fun i C hC => hx.2 (i + 1) C hC⟩
theorem LWt_clear {r q : Int} (h : LWt T Ss W Bs μ ν) (hc : CI T u ∧ SP μ u ∧ r = rL W ∧ SKc .leaf [] u) (hm : GE JS ν v ∧ v 0 0 = 0 ∧ q = rL W ∧ SKr .leaf [] v) : r = q ∧ LW9 u v := by
  obtain ⟨e0, k⟩ := LKt_clear9 h.1 hc hm
  exact ⟨e0, T, Ss, _, _, k, trivial, fun i B hB => by simp at hB⟩
theorem LW_A (h : LWt T Ss W Bs μ ν) : AL (kR ν) W := h.2.1
theorem LK_OF (h : LKt T Ss W Bs μ ν) : rOF W := JW_OF (JWq_W h.2.2.2.1.1.1)
theorem LK_rN (h : LKt T Ss W Bs μ ν) : rN W ≤ 900 := by
  have h2 := JWq_n h.2.2.2.1.1.1
  have h3 := h.2.2.2.1.1.2
  omega
theorem LK_tk (h : LKt T Ss W Bs μ ν) (a : Int) (ha : 0 ≤ a ∧ a < ν 0 10) (c : Nat) (hc : c < (ν 15 a.toNat).toNat) : 0 ≤ ν (7 + a.toNat) c ∧ ν (7 + a.toNat) c < 200 := by
  have hQ := h.1.1.1.2.1.1
  have h2 := (hQ.2.2.2.1 a.toNat (by omega)).2.2.1 c (by omega)
  have h3 := h.1.1.1.2.2.1
  have h4 := h3.1
  have h5 := h3.2.1
  omega
end LWs
theorem LWt_feed {T : List Tk} {Ss : List (List Int)} {W : Rw} {Bs : List Rw} {μ ν u v : va_M} {a1 a2 a3 a4 a5 r r2 : Int} (h : LWt T Ss W Bs μ ν) (hc : (μ 1 1 + 20 > 400 → u = μ ∧ r = -1) ∧ (μ 1 1 + 20 ≤ 400 → u 1 1 = μ 1 1 + 20 ∧ r = μ 1 1 + 20 ∧ fr (fun x y => (x = 1 ∧ y = 1) ∨ x = 2) μ u ∧ ∀ j : Nat, u 2 j = if μ 1 1 ≤ j ∧ (j : Int) < μ 1 1 + 20 then bz (argO a1 a2 a3 a4 a5 (j - μ 1 1)) ((j - μ 1 1) % 4) else μ 2 j)) (hm : (ν 0 2 + 20 > 400 → v = uz ν 0 0 0 ∧ r2 = -1) ∧ (ν 0 2 + 20 ≤ 400 → v 0 2 = ν 0 2 + 20 ∧ r2 = ν 0 2 + 20 ∧ v 0 0 = 0 ∧ fr (fun x y => (x = 0 ∧ (y = 0 ∨ y = 2)) ∨ x = 2) ν v ∧ ∀ j : Nat, j < 400 → v 2 j = if ν 0 2 ≤ j ∧ (j : Int) < ν 0 2 + 20 then bz (argO a1 a2 a3 a4 a5 (j - ν 0 2)) ((j - ν 0 2) % 4) else ν 2 j)) : r = r2 ∧ LWt T Ss W Bs u v := by
  obtain ⟨e, k⟩ := LKt_feed h.1 hc hm
  refine ⟨e, k, WX_mono h.2 ?_⟩
  by_cases hq : ν 0 2 + 20 > 400
  · rw [(hm.1 hq).1]
    exact kR_fr (P := fun x y => x = 0 ∧ y = 0) (fr_uz fr_rfl ⟨rfl, rfl⟩) (by omega) (fun j => by omega)
  · exact kR_fr (hm.2 (by omega)).2.2.2.1 (by omega) (fun j => by omega)
theorem LWt_page {T : List Tk} {Ss : List (List Int)} {W : Rw} {Bs : List Rw} {μ ν u v : va_M} {n : Int} (h : LWt T Ss W Bs μ ν) (hc : PKC T μ n u) (hm : ((n < 0 ∨ ν 0 2 < n ∨ ν 0 10 = 8) → fr (fun x y => (x = 0 ∧ y = 0) ∨ x = 1) ν v ∧ (v 0 0 = 1 ∨ v 0 0 = 2)) ∧ (0 ≤ n → n ≤ ν 0 2 → ν 0 10 < 8 → v 0 0 = 0 ∧ v 0 2 = 0 ∧ (∀ j : Nat, j < 201 → inR (v 3 j)) ∧ (pg (bAn ν n) n 0 T [] = none → v 0 10 = ν 0 10 ∧ tabR v T ∧ fr (PGf (ν 0 10).toNat T.length) ν v) ∧ ∀ (T2 : List Tk) (S : List Int), pg (bAn ν n) n 0 T [] = some (T2, S) → v 0 10 = ν 0 10 + 1 ∧ tabR v T2 ∧ tabW T2 ∧ T.length ≤ T2.length ∧ pgR v (ν 0 10).toNat T2 S ∧ fr (PGs (ν 0 10).toNat T.length) ν v ∧ ∃ (l9 : List (Nat × Nat × Nat)) (w : Rw), fldR v (ν 0 10).toNat T2 S l9 w)) : LW9 u v := by
  obtain ⟨T2, Ss2, k⟩ := LKt_page9 h.1 hc hm
  refine ⟨T2, Ss2, W, Bs, k, WX_mono h.2 ?_⟩
  have hR := h.1.1.1.1.2.2.1
  have h10 := h.1.1.1.1.2.1.1.1
  have key : ∀ {P : Nat → Nat → Prop}, fr P ν v → ν 0 9 ≤ v 0 9 → (∀ j : Nat, j < T.length → ¬ P 3 j) → ∀ k v2, kR ν k v2 → kR v k v2 := fun {P} hf h9 h3 k v2 hk => by
    unfold kR at hk ⊢
    have hl := hR.1
    rw [hf 3 v2.toNat (h3 _ (by omega))]
    exact ⟨⟨hk.1.1, by omega⟩, hk.2⟩
  by_cases c : 0 ≤ n ∧ n ≤ ν 0 2 ∧ ν 0 10 < 8
  · obtain ⟨n1, n2, n3, n4, n5⟩ := hm.2 c.1 c.2.1 c.2.2
    cases hp : pg (bAn ν n) n 0 T [] with
    | none =>
      obtain ⟨q1, q2, q3⟩ := n4 hp
      exact key q3 (by have a := q2.1; have b := hR.1; omega) (fun j hj => by unfold PGf PR PN; omega)
    | some p =>
      obtain ⟨T3, S3⟩ := p
      obtain ⟨q1, q2, q3, q4, q5, q6, -⟩ := n5 T3 S3 hp
      exact key q6 (by have a := q2.1; have b := hR.1; omega) (fun j hj => by unfold PGs PGf PR PN FF FQ FP P8 PT; omega)
  · have k9 := (hm.1 (by omega)).1
    exact key k9 (by rw [k9 0 9 (by omega)]; exact Int.le_refl _) (fun j hj => by omega)
/-- a page's codes on both sides -/
theorem cd_eq {T : List Tk} {Ss : List (List Int)} {W : Rw} {Bs : List Rw} {μ ν : va_M} {a : Int} (h : LKt T Ss W Bs μ ν) (ha : 0 ≤ a ∧ a < μ 0 2) : ν 15 a.toNat = μ (113 + a.toNat * 15) 2 ∧ ∀ c : Nat, c < (μ (113 + a.toNat * 15) 2).toNat → μ (113 + a.toNat * 15 + 2) c = cdR ν (ν (7 + a.toNat) c) := by
  have hP := h.1.1.2
  have hR := h.1.1.1.2.2.1
  have hl : a.toNat < Ss.length := by have := hP.1; omega
  have hg : Ss[a.toNat]? = some (Ss[a.toNat]'hl) := List.getElem?_eq_getElem hl
  generalize Ss[a.toNat]'hl = S at hg
  obtain ⟨p1, p2, ⟨p3, p4⟩, p5, p6⟩ := hP.2 a.toNat S hg
  refine ⟨by omega, fun c hc => ?_⟩
  have hc2 : c < S.length := by omega
  have hk : S[c]? = some (S[c]'hc2) := List.getElem?_eq_getElem hc2
  generalize S[c]'hc2 = e at hk
  have e1 := (p4 c e hk).2
  have e2 := p6 c e hk
  have e3 := p2 c e hk
  rw [e1, e2]
  have hl2 : e.toNat < T.length := by omega
  have hg2 : T[e.toNat]? = some (T[e.toNat]'hl2) := List.getElem?_eq_getElem hl2
  rw [cdT_is hg2]
  unfold cdR
  rw [(hR.2.2 _ _ hg2).1]
theorem cut_same {T : List Tk} {Ss : List (List Int)} {W : Rw} {Bs : List Rw} {μ ν v : va_M} {pg cd z q : Int} (h : LKt T Ss W Bs μ ν) (hsp : cd = cd2 (0 ≤ pg ∧ pg < μ 0 2) True ∧ (cd = 0 → cuR W (μ (113 + pg.toNat * 15 + 2)) (μ (113 + pg.toNat * 15) 2).toNat z))
    (hm9 : (fr PS ν v ∧ (v 0 0 = 0 ∨ v 0 0 = 1 ∨ v 0 0 = 2)) ∧ v 0 0 = cd2 (0 ≤ pg ∧ pg < ν 0 10) True ∧ (cd2 (0 ≤ pg ∧ pg < ν 0 10) True = 0 → cuR W (fun c => cdR ν (ν (7 + pg.toNat) c)) (ν 15 pg.toNat).toNat q)) : v 0 0 = cd ∧ (cd = 0 → q = z) := by
  have e6 := h.1.1.1.2.2.2.2.2.1
  obtain ⟨-, m1, m2⟩ := hm9
  obtain ⟨s1, s2⟩ := hsp
  have s3 := s1
  rw [e6] at s3
  refine ⟨m1.trans s3.symm, fun h0 => ?_⟩
  have ha := (cd2_of (s1.symm.trans h0)).1
  obtain ⟨e1, e2⟩ := cd_eq h ha
  have m3 := m2 (s3.symm.trans h0)
  rw [e1] at m3
  exact cuR_1 (LK_OF h) m3 (cu_code e2 (s2 h0))
theorem nod_cd0 {A B : Prop} {cd : Int} {X : Prop} (hsp : cd = cd2 A B ∧ X) (h : iZ cd = 0) : cd = 0 := cd2_z hsp.1 h

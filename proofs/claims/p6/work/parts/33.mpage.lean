
/-! page: what its loop keeps -/
def tokW (e : Tk) : Prop := (e.1 = 0 ∨ e.1 = 1 ∨ e.1 = 2) ∧ 0 ≤ e.2.1 ∧ e.2.1 < 387420489 ∧ 1 ≤ e.2.2 ∧ e.2.2 ≤ 6
def tabW (T : List Tk) : Prop := ∀ (k : Nat) (e : Tk), T[k]? = some e → tokW e
def PR (pp t x y : Nat) : Prop := PN x y ∨ (x = 0 ∧ y = 9) ∨ ((x = 3 ∨ x = 4 ∨ x = 5) ∧ t ≤ y) ∨ x = 7 + pp
def pok (μ0 μ : va_M) (pp : Nat) (T0 : List Tk) (so : Int) (T : List Tk) (S : List Int) : Prop :=
  fr (PR pp T0.length) μ0 μ ∧ μ 0 6 = 0 ∧ 0 ≤ μ 0 4 ∧ μ 0 4 ≤ μ0 0 3 ∧ pg (bA μ0) (μ0 0 3) (μ 0 4) T S = pg (bA μ0) (μ0 0 3) 0 T0 [] ∧ tabR μ T ∧ tabW T ∧ T0.length ≤ T.length ∧ (S.length : Int) = so ∧ S.length ≤ 60 ∧ (∀ j : Nat, j < 201 → inR (μ 3 j)) ∧ ∀ (k : Nat) (x : Int), S[k]? = some x → μ (7 + pp) k = x ∧ 0 ≤ x ∧ x < T.length
def pbad (μ0 μ : va_M) (pp : Nat) (T0 : List Tk) (so : Int) : Prop :=
  fr (PR pp T0.length) μ0 μ ∧ (μ 0 6 = 1 ∨ μ 0 6 = 2) ∧ pg (bA μ0) (μ0 0 3) 0 T0 [] = none ∧ 0 ≤ so ∧ so ≤ 61 ∧ (∀ j : Nat, j < 201 → inR (μ 3 j))
def pst (μ0 μ : va_M) (pp : Nat) (T0 : List Tk) (so : Int) (T : List Tk) (S : List Int) : Prop := pok μ0 μ pp T0 so T S ∨ pbad μ0 μ pp T0 so
def pfin (μ0 μ : va_M) (pp : Nat) (T0 : List Tk) (so : Int) (T : List Tk) (S : List Int) : Prop := (pok μ0 μ pp T0 so T S ∧ μ0 0 3 ≤ μ 0 4) ∨ pbad μ0 μ pp T0 so
theorem PR_n {pp t x y : Nat} (h : x = 2 ∨ (x = 0 ∧ (y = 3 ∨ y = 10 ∨ y = 0 ∨ y = 2 ∨ y = 5))) : ¬ PR pp t x y := by unfold PR PN; omega
theorem pok_b {μ0 μ : va_M} {pp t : Nat} (h : fr (PR pp t) μ0 μ) : bA μ = bA μ0 := funext fun _ => bA_fr h (PR_n (by omega)) (fun _ => PR_n (by omega))
theorem tabR_fr {P : Nat → Nat → Prop} {μ u : va_M} {T : List Tk} (h : tabR μ T) (hf : fr P μ u) (h9 : ¬ P 0 9) (h3 : ∀ k, ¬ P 3 k ∧ ¬ P 4 k ∧ ¬ P 5 k) : tabR u T := by
  obtain ⟨a1, a2, a3⟩ := h
  refine ⟨by rw [hf 0 9 h9]; exact a1, a2, fun k e he => ?_⟩
  rw [hf 3 k (h3 k).1, hf 4 k (h3 k).2.1, hf 5 k (h3 k).2.2]
  exact a3 k e he
theorem tab_get {T : List Tk} {k : Nat} (h : k < T.length) : ∃ e, T[k]? = some e := ⟨_, List.getElem?_eq_getElem h⟩
theorem tab_U {μ : va_M} {T : List Tk} (h : tabR μ T) (hw : tabW T) : okU μ := by
  obtain ⟨a1, a2, a3⟩ := h
  refine ⟨by omega, by omega, fun k hk => ?_⟩
  obtain ⟨e, he⟩ := tab_get (T := T) (k := k) (by omega)
  obtain ⟨b1, b2, _⟩ := a3 k e he
  obtain ⟨c1, c2, c3, _⟩ := hw k e he
  rw [b1, b2]
  exact ⟨by constructor <;> omega, by constructor <;> omega⟩
theorem app_is {α : Type} {l : List α} {x y : α} {k : Nat} (h : (l ++ [x])[k]? = some y) : (k < l.length ∧ l[k]? = some y) ∨ (k = l.length ∧ x = y) := by
  rw [List.getElem?_append] at h
  split at h
  · next h9 => exact Or.inl ⟨h9, h⟩
  · next h9 =>
    rw [List.getElem?_singleton] at h
    split at h
    · next h8 => cases h; exact Or.inr ⟨by omega, rfl⟩
    · cases h
theorem pok_blank {μ0 μ u : va_M} {pp : Nat} {T0 T : List Tk} {so : Int} {S : List Int} (hk : pok μ0 μ pp T0 so T S) (hf : fr (fun x y => x = 0 ∧ y = 4) μ u) (h1 : μ 0 4 ≤ u 0 4) (h2 : u 0 4 ≤ μ 0 3) (h3 : ∀ j : Int, μ 0 4 ≤ j → j < u 0 4 → bA μ j = 32) : pok μ0 u pp T0 so T S := by
  obtain ⟨a1, a2, a3, a4, a5, a6, a7, a8, a9, b1, b2, b3⟩ := hk
  rw [a1 0 3 (PR_n (by omega))] at h2
  rw [pok_b a1] at h3
  refine ⟨fr_trans a1 (fr_mono hf (fun x y h => Or.inl ⟨h.1, Or.inl h.2⟩)), by rw [hf 0 6 (by omega)]; exact a2, by omega, h2, ?_, tabR_fr a6 hf (by omega) (fun k => by omega), a7, a8, a9, b1, fun j hj => by rw [hf 3 j (by omega)]; exact b2 j hj, fun k x hx => by rw [hf (7 + pp) k (by omega)]; exact b3 k x hx⟩
  have h9 := pg_blanks (b := bA μ0) (n := μ0 0 3) (T := T) (S := S) (u 0 4 - μ 0 4).toNat (μ 0 4) (fun j h4 h5 => h3 j h4 (by omega)) (by omega)
  rw [show μ 0 4 + ((u 0 4 - μ 0 4).toNat : Int) = u 0 4 by omega] at h9
  rw [← h9, a5]
theorem pok_bad {μ0 μ : va_M} {pp : Nat} {T0 T : List Tk} {so : Int} {S : List Int} (hk : pok μ0 μ pp T0 so T S) (h1 : bA μ (μ 0 4) ≠ 32) (h2 : bA μ (μ 0 4) ≠ -1) (h3 : ¬ (bA μ (μ 0 4) = 60 ∨ (97 ≤ bA μ (μ 0 4) ∧ bA μ (μ 0 4) ≤ 122)) ∨ so = 60) : pg (bA μ0) (μ0 0 3) 0 T0 [] = none := by
  obtain ⟨a1, a2, a3, a4, a5, a6, a7, a8, a9, b1, b2, b3⟩ := hk
  have h4 := bA_end h2
  rw [a1 0 3 (PR_n (by omega))] at h4
  rw [pok_b a1] at h1 h3
  rw [← a5, pg_S h4, if_neg h1]
  rcases h3 with h3 | h3
  · rw [if_pos h3]
  · by_cases h5 : ¬ (bA μ0 (μ 0 4) = 60 ∨ (97 ≤ bA μ0 (μ 0 4) ∧ bA μ0 (μ 0 4) ≤ 122))
    · rw [if_pos h5]
    · rw [if_neg h5, if_pos (by omega)]
theorem pok_wrong {μ0 μ u : va_M} {pp : Nat} {T0 T : List Tk} {so w a : Int} {S : List Int} (hk : pok μ0 μ pp T0 so T S) (hn : pg (bA μ0) (μ0 0 3) 0 T0 [] = none) (hu : u = if μ 0 6 = 0 then uz (uz μ 0 6 w) 0 7 a else μ) (hw : w = 1 ∨ w = 2) : pbad μ0 u pp T0 so := by
  obtain ⟨a1, a2, a3, a4, a5, a6, a7, a8, a9, b1, b2, b3⟩ := hk
  rw [if_pos a2] at hu
  refine ⟨by rw [hu]; exact fr_uz (fr_uz a1 (by unfold PR PN; omega)) (by unfold PR PN; omega), by rw [hu, uz_n (by omega), uz_s]; exact hw, hn, by omega, by omega, fun j hj => by rw [hu, uz_n (by omega), uz_n (by omega)]; exact b2 j hj⟩
theorem PN_PR {pp t : Nat} : ∀ x y : Nat, PN x y → PR pp t x y := fun _ _ h => Or.inl h
theorem nval_rng {b : Int → Int} {a : Int} : ∀ L : Nat, (∀ i : Nat, i < L → 97 ≤ b (a + i) ∧ b (a + i) ≤ 122) → 0 ≤ nval b a L ∧ nval b a L + 1 ≤ 27 ^ L
  | 0, _ => by simp [nval]
  | L + 1, h => by
    have h1 := nval_rng L (fun i hi => h i (Nat.lt_succ_of_lt hi))
    have h2 := h L (Nat.lt_succ_self L)
    rw [nval, Int.pow_succ]
    omega
theorem tok_W {b : Int → Int} {a : Int} (h : tkGood b a) : tokW (tkS b a, tkV b a, tkL b a) := by
  have h1 := nval_rng (b := b) (a := tkN b a) (tkL b a) (fun i hi => lets_sm 6 _ i hi)
  have h2 : tkL b a ≤ 6 := lets_le 6 _
  have h3 : (27 : Int) ^ (tkL b a) ≤ 27 ^ 6 := by exact_mod_cast Nat.pow_le_pow_right (show 0 < 27 by decide) h2
  have h4 : (27 : Int) ^ 6 = 387420489 := by decide
  refine ⟨?_, h1.1, ?_, h.1, h2⟩
  · show tkS b a = 0 ∨ tkS b a = 1 ∨ tkS b a = 2
    unfold tkS
    split
    · omega
    · split <;> omega
  · show tkV b a < 387420489
    unfold tkV
    omega
theorem pok_tok {μ0 μ u : va_M} {pp : Nat} {T0 T : List Tk} {so r : Int} {S : List Int} (hk : pok μ0 μ pp T0 so T S) (hso : so < 60) (h1 : bA μ (μ 0 4) ≠ 32) (h2 : bA μ (μ 0 4) ≠ -1) (h3 : bA μ (μ 0 4) = 60 ∨ (97 ≤ bA μ (μ 0 4) ∧ bA μ (μ 0 4) ≤ 122))
    (hp : ∃ (q s : Int) (L : Nat), tkB μ (μ 0 4) q s ∧ (∀ i : Nat, i < L → sm (bA μ (s + i))) ∧ 0 ≤ u 0 4 ∧ u 0 4 ≤ μ 0 3 ∧ ((tkNo μ q s ∧ fr PN μ u ∧ u 0 6 = 1 ∧ r = -1) ∨ (tkOk μ q s L ∧ u 0 4 = s + L + (if q < 2 then 1 else 0) ∧ ((fr PN μ u ∧ u 0 6 = 0 ∧ 0 ≤ r ∧ r < μ 0 9 ∧ tkIs μ q (nmV μ s L) r.toNat ∧ ∀ j : Nat, (j : Int) < r → ¬ tkIs μ q (nmV μ s L) j) ∨ ((∀ j : Nat, (j : Int) < μ 0 9 → ¬ tkIs μ q (nmV μ s L) j) ∧ μ 0 9 = 200 ∧ fr PN μ u ∧ u 0 6 = 2 ∧ r = -1) ∨ ((∀ j : Nat, (j : Int) < μ 0 9 → ¬ tkIs μ q (nmV μ s L) j) ∧ μ 0 9 < 200 ∧ u 0 6 = 0 ∧ r = μ 0 9 ∧ u 0 9 = μ 0 9 + 1 ∧ u 3 r.toNat = q ∧ u 4 r.toNat = nmV μ s L ∧ u 5 r.toNat = L ∧ fr (fun x y => PN x y ∨ (x = 0 ∧ y = 9) ∨ ((x = 3 ∨ x = 4 ∨ x = 5) ∧ y = (μ 0 9).toNat)) μ u))))) : ∃ (T2 : List Tk) (S2 : List Int), pst μ0 (uz u (7 + pp) so.toNat r) pp T0 (so + 1) T2 S2 := by
  obtain ⟨a1, a2, a3, a4, a5, a6, a7, a8, a9, b1, b2, b3⟩ := hk
  obtain ⟨q, s, L, hB, hs, h5, h6, hc⟩ := hp
  have h4 := bA_end h2
  have e3 := a1 0 3 (PR_n (by omega))
  rw [e3] at h4 h6
  have eb := pok_b a1
  rw [eb] at h1 h3
  have e9 := pg_S (b := bA μ0) (n := μ0 0 3) (a := μ 0 4) (T := T) (S := S) h4
  rw [if_neg h1, if_neg (fun h => h h3), if_neg (by omega), a5] at e9
  have hSl : so.toNat = S.length := by omega
  rcases hc with ⟨g1, g2, g3, g4⟩ | ⟨g1, g2, hc⟩
  · have h7 := tkGood_no hB g1
    rw [eb] at h7
    rw [if_pos h7] at e9
    exact ⟨T, S, Or.inr ⟨fr_uz (fr_trans a1 (fr_mono g2 PN_PR)) (Or.inr (Or.inr (Or.inr rfl))), by rw [uz_n (by omega)]; exact Or.inl g3, e9, by omega, by omega, fun j hj => by rw [uz_n (by omega), g2 3 j (by unfold PN; omega)]; exact b2 j hj⟩⟩
  · obtain ⟨c1, c2, c3, c4⟩ := tkGood_ok hB hs g1
    rw [nmV_is] at hc
    rw [eb] at c1 c2 c3 c4 hc
    subst c1 c2 c3
    have hv : nval (bA μ0) (tkN (bA μ0) (μ 0 4)) (tkL (bA μ0) (μ 0 4)) = tkV (bA μ0) (μ 0 4) := rfl
    rw [hv] at hc
    have hx : tkN (bA μ0) (μ 0 4) + (tkL (bA μ0) (μ 0 4) : Int) + (if tkS (bA μ0) (μ 0 4) < 2 then 1 else 0) = tkX (bA μ0) (μ 0 4) := rfl
    rw [hx] at g2
    rw [if_neg (fun h => h c4)] at e9
    obtain ⟨t1, t2, t3⟩ := a6
    rcases hc with ⟨d1, d2, d3, d4, d5, d6⟩ | ⟨d1, d2, d3, d4, d5⟩ | ⟨d1, d2, d3, d4, d5, d6, d7, d8, d9⟩
    · obtain ⟨x, hxx⟩ := tab_get (T := T) (k := r.toNat) (by omega)
      obtain ⟨y1, y2, y3⟩ := t3 _ _ hxx
      have hi : idx (tkS (bA μ0) (μ 0 4)) (tkV (bA μ0) (μ 0 4)) T = r.toNat := idx_is T r.toNat x hxx (by rw [← y1]; exact d5.1) (by rw [← y2]; exact d5.2) (fun j y hj hy hq => by
        obtain ⟨z1, z2, _⟩ := t3 _ _ hy
        exact d6 j (by omega) ⟨z1.trans hq.1, z2.trans hq.2⟩)
      rw [hi, if_pos (by omega), show ((r.toNat : Nat) : Int) = r by omega] at e9
      refine ⟨T, S ++ [r], Or.inl ⟨fr_uz (fr_trans a1 (fr_mono d1 PN_PR)) (Or.inr (Or.inr (Or.inr rfl))), by rw [uz_n (by omega)]; exact d2, by rw [uz_n (by omega)]; exact h5, by rw [uz_n (by omega)]; exact h6, by rw [uz_n (by omega), g2]; exact e9.symm, ?_, a7, a8, by rw [List.length_append, List.length_singleton]; omega, by rw [List.length_append, List.length_singleton]; omega, fun j hj => by rw [uz_n (by omega), d1 3 j (by unfold PN; omega)]; exact b2 j hj, fun k y hy => ?_⟩⟩
      · exact tabR_fr (P := fun x _ => x = 7 + pp) (tabR_fr ⟨t1, t2, t3⟩ d1 (by unfold PN; omega) (fun k => by unfold PN; omega)) (fr_uz fr_rfl rfl) (by omega) (fun k => by omega)
      · rcases app_is hy with ⟨z1, z2⟩ | ⟨z1, z2⟩
        · rw [uz_n (by omega), d1 (7 + pp) k (by unfold PN; omega)]
          exact b3 k y z2
        · subst z1 z2
          rw [hSl, uz_s]
          omega
    · have hi : idx (tkS (bA μ0) (μ 0 4)) (tkV (bA μ0) (μ 0 4)) T = T.length := idx_no T (fun j y hy hq => by
        obtain ⟨z1, z2, _⟩ := t3 _ _ hy
        have hj : j < T.length := (List.getElem?_eq_some_iff.mp hy).1
        exact d1 j (by omega) ⟨z1.trans hq.1, z2.trans hq.2⟩)
      rw [hi, if_neg (by omega), if_pos (by omega)] at e9
      exact ⟨T, S, Or.inr ⟨fr_uz (fr_trans a1 (fr_mono d3 PN_PR)) (Or.inr (Or.inr (Or.inr rfl))), by rw [uz_n (by omega)]; exact Or.inr d4, e9, by omega, by omega, fun j hj => by rw [uz_n (by omega), d3 3 j (by unfold PN; omega)]; exact b2 j hj⟩⟩
    · have hi : idx (tkS (bA μ0) (μ 0 4)) (tkV (bA μ0) (μ 0 4)) T = T.length := idx_no T (fun j y hy hq => by
        obtain ⟨z1, z2, _⟩ := t3 _ _ hy
        have hj : j < T.length := (List.getElem?_eq_some_iff.mp hy).1
        exact d1 j (by omega) ⟨z1.trans hq.1, z2.trans hq.2⟩)
      rw [hi, if_neg (by omega), if_neg (by omega)] at e9
      have hr9 : r.toNat = T.length := by omega
      have ht9 : (μ 0 9).toNat = T.length := by omega
      rw [ht9] at d9
      rw [hr9] at d6 d7 d8
      have hW := tok_W c4
      refine ⟨T ++ [(tkS (bA μ0) (μ 0 4), tkV (bA μ0) (μ 0 4), tkL (bA μ0) (μ 0 4))], S ++ [(T.length : Int)], Or.inl ⟨fr_uz (fr_trans a1 (fr_mono d9 (fun x y h => h.elim Or.inl (fun h => h.elim (fun h => Or.inr (Or.inl h)) (fun h => Or.inr (Or.inr (Or.inl ⟨h.1, by omega⟩))))))) (Or.inr (Or.inr (Or.inr rfl))), by rw [uz_n (by omega)]; exact d3, by rw [uz_n (by omega)]; exact h5, by rw [uz_n (by omega)]; exact h6, by rw [uz_n (by omega), g2]; exact e9.symm, ⟨by rw [uz_n (by omega), List.length_append, List.length_singleton]; omega, by rw [List.length_append, List.length_singleton]; omega, fun k e he => ?_⟩, fun k e he => ?_, by rw [List.length_append]; omega, by rw [List.length_append, List.length_singleton]; omega, by rw [List.length_append, List.length_singleton]; omega, fun j hj => ?_, fun k y hy => ?_⟩⟩
      · rw [uz_n (by omega), uz_n (by omega), uz_n (by omega)]
        rcases app_is he with ⟨z1, z2⟩ | ⟨z1, z2⟩
        · rw [d9 3 k (by unfold PN; omega), d9 4 k (by unfold PN; omega), d9 5 k (by unfold PN; omega)]
          exact t3 k e z2
        · subst z1 z2
          exact ⟨d6, d7, d8⟩
      · rcases app_is he with ⟨z1, z2⟩ | ⟨z1, z2⟩
        · exact a7 k e z2
        · subst z2; exact hW
      · rw [uz_n (by omega)]
        by_cases hj2 : j = T.length
        · rw [hj2, d6]
          have := hW.1
          constructor <;> omega
        · rw [d9 3 j (by unfold PN; omega)]; exact b2 j hj
      · rw [List.length_append, List.length_singleton]
        rcases app_is hy with ⟨z1, z2⟩ | ⟨z1, z2⟩
        · rw [uz_n (by omega), d9 (7 + pp) k (by unfold PN; omega)]
          have := b3 k y z2
          omega
        · subst z1 z2
          rw [hSl, uz_s]
          omega

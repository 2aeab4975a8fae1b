/-! the walker's columns, told of the row -/
def tkI (sg cd : Int) : Int := if sg = cd ∨ cd = 516 ∨ (sg = 512 ∧ 256 ≤ cd ∧ cd < 512) then 1 else 0
def wNo (hw k : Int) : Int := if hw = 0 then 0 else if hw = 1 then 1000000 else k
def wEn (hw k n : Int) : Int := if hw = 0 then (if k = n then 1 else 0) else if hw = 1 then n - k else k
/-- what a leaf's place answers: a is behind it with a token more, b at it with a token more -/
def lfW (hw k n sg cd a b : Int) : Int := if k < n then (if hw = 1 then min (if tkI sg cd = 1 then a else wNo hw k) (b + 1) else if tkI sg cd = 1 then a else wNo hw k) else wNo hw k
def gIw (μ u : va_M) (q i fr9 : Nat) (hw lf : Int) : Prop :=
  (∀ y : Nat, y ≠ i → u 47 y = μ 47 y) ∧ (∀ y : Nat, (μ (q + 1) i ≤ 512 → y ≠ fr9) → u 46 y = μ 46 y) ∧ (μ (q + 1) i = 513 → u 47 i = wEi hw (μ 47 (i + 1)) (μ 47 (μ (q + 2) i + 1).toNat)) ∧ (μ (q + 1) i = 514 → u 47 i = μ 47 (i + 1)) ∧ (μ (q + 1) i ≤ 512 → u 47 i = lf ∧ u 46 fr9 = lf)
theorem gIw_1 {μ : va_M} {q i fr9 : Nat} {hw lf v : Int} (hc : ¬ μ (q + 1) i ≤ 512) (h3 : μ (q + 1) i = 513 → v = wEi hw (μ 47 (i + 1)) (μ 47 (μ (q + 2) i + 1).toNat)) (h4 : μ (q + 1) i = 514 → v = μ 47 (i + 1)) : gIw μ (uz μ 47 i v) q i fr9 hw lf :=
  ⟨fun y hy => uz_n (by omega), fun y _ => uz_n (by omega), fun h => by rw [uz_s]; exact h3 h, fun h => by rw [uz_s]; exact h4 h, fun h => absurd h hc⟩
theorem gIw_2 {μ : va_M} {q i fr9 : Nat} {hw lf v : Int} (hc : μ (q + 1) i ≤ 512) (hv : v = lf) : gIw μ (uz (uz μ 46 fr9 v) 47 i v) q i fr9 hw lf :=
  ⟨fun y hy => by rw [uz_n (by omega), uz_n (by omega)], fun y hy => by have := hy hc; rw [uz_n (by omega), uz_n (by omega)], fun h => by omega, fun h => by omega, fun _ => ⟨by rw [uz_s]; exact hv, by rw [uz_n (by omega), uz_s]; exact hv⟩⟩
def gO (μ u : va_M) (q i fr9 : Nat) (hw : Int) (mt n1 : Nat) : Prop :=
  (∀ x y : Nat, ¬ (x = 46 ∧ y = fr9 ∧ ¬ μ (q + 1) i ≤ 512) → u x y = μ x y) ∧ (μ (q + 1) i = 513 → u 46 fr9 = wEi hw (μ 46 n1) (μ 46 mt)) ∧ (μ (q + 1) i = 514 → u 46 fr9 = μ 46 n1) ∧ (μ (q + 1) i = 515 → u 46 fr9 = if μ (q + 1) (μ (q + 2) i).toNat = 514 then wEi hw (μ 47 (μ (q + 2) i + 1).toNat) (μ 46 n1) else μ 46 n1)
theorem gO_0 {μ : va_M} {q i fr9 mt n1 : Nat} {hw : Int} (hc : μ (q + 1) i ≤ 512) : gO μ μ q i fr9 hw mt n1 := ⟨fun _ _ _ => rfl, fun h => by omega, fun h => by omega, fun h => by omega⟩
theorem gO_1 {μ : va_M} {q i fr9 mt n1 : Nat} {hw v : Int} (hc : ¬ μ (q + 1) i ≤ 512) (h3 : μ (q + 1) i = 513 → v = wEi hw (μ 46 n1) (μ 46 mt)) (h4 : μ (q + 1) i = 514 → v = μ 46 n1) (h5 : μ (q + 1) i = 515 → v = if μ (q + 1) (μ (q + 2) i).toNat = 514 then wEi hw (μ 47 (μ (q + 2) i + 1).toNat) (μ 46 n1) else μ 46 n1) : gO μ (uz μ 46 fr9 v) q i fr9 hw mt n1 :=
  ⟨fun x y h => uz_n (by omega), fun h => by rw [uz_s]; exact h3 h, fun h => by rw [uz_s]; exact h4 h, fun h => by rw [uz_s]; exact h5 h⟩
/-- column c of the answers -/
def wf (μ : va_M) (W : Rw) (c x : Nat) : Int := μ 46 (c * (sL W + 1) + x)
def wtk (μ : va_M) (q kc : Nat) (n hw : Int) (W : Rw) (c x : Nat) : Int := lfW hw c n (μ (q + 1) x) (μ kc c) (wf μ W (c + 1) (x + 1)) (wf μ W (c + 1) x)
def cTw (μ : va_M) (q kc : Nat) (n hw : Int) (W : Rw) (c : Nat) : Prop := EI (wEi hw) (wtk μ q kc n hw W c) (wf μ W c) W 0 ∧ EC (wEi hw) (wf μ W c) W 0 ∧ wf μ W c (sL W) = wEn hw c n
theorem ix9 {k i L : Int} {S : Nat} (hk : 0 ≤ k) (hi : 0 ≤ i) (hL : L + 1 = S) : (k * (L + 1) + i).toNat = k.toNat * S + i.toNat := by
  obtain ⟨a, rfl⟩ := Int.eq_ofNat_of_zero_le hk
  rw [hL]
  have h1 : ((a * S : Nat) : Int) = (a : Int) * S := Int.natCast_mul a S
  rw [Int.toNat_natCast]
  omega
theorem wf_fr {μ u : va_M} {W : Rw} {c : Nat} (h : ∀ y : Nat, c * (sL W + 1) ≤ y → u 46 y = μ 46 y) : wf u W c = wf μ W c := funext fun x => h _ (Nat.le_add_right _ _)
theorem wtk_fr {μ u : va_M} {q kc : Nat} {n hw : Int} {W : Rw} {c : Nat} (h46 : ∀ y : Nat, (c + 1) * (sL W + 1) ≤ y → u 46 y = μ 46 y) (h1 : ∀ y : Nat, u (q + 1) y = μ (q + 1) y) (hk : ∀ y : Nat, u kc y = μ kc y) : wtk u q kc n hw W c = wtk μ q kc n hw W c := funext fun x => by
  unfold wtk
  rw [wf_fr h46, h1, hk]
theorem cTw_fr {μ u : va_M} {q kc : Nat} {n hw : Int} {W : Rw} {c : Nat} (h : cTw μ q kc n hw W c) (h46 : ∀ y : Nat, c * (sL W + 1) ≤ y → u 46 y = μ 46 y) (h1 : ∀ y : Nat, u (q + 1) y = μ (q + 1) y) (hk : ∀ y : Nat, u kc y = μ kc y) : cTw u q kc n hw W c := by
  unfold cTw
  rw [wf_fr h46, wtk_fr (fun y hy => h46 y (Nat.le_trans (Nat.mul_le_mul_right _ (Nat.le_succ c)) hy)) h1 hk]
  exact h
/-- the columns behind k stand -/
def cH (μ : va_M) (q kc : Nat) (n hw : Int) (W : Rw) (k : Int) : Prop := ∀ c : Nat, k < (c : Int) → (c : Int) ≤ n → cTw μ q kc n hw W c
theorem cH_fr {μ u : va_M} {q kc : Nat} {n hw : Int} {W : Rw} {k : Int} (hk0 : 0 ≤ k) (h : cH μ q kc n hw W k) (h46 : ∀ y : Nat, (k.toNat + 1) * (sL W + 1) ≤ y → u 46 y = μ 46 y) (h1 : ∀ y : Nat, u (q + 1) y = μ (q + 1) y) (hk : ∀ y : Nat, u kc y = μ kc y) : cH u q kc n hw W k := fun c c1 c2 => cTw_fr (h c c1 c2) (fun y hy => h46 y (Nat.le_trans (Nat.mul_le_mul_right _ (by omega)) hy)) h1 hk
/-- within column c: from place i on what is inward, and the leaves -/
def i1 (μ : va_M) (q kc : Nat) (n hw : Int) (W : Rw) (c i : Nat) : Prop := ∀ j : Nat, i ≤ j → j < sL W → lnI μ q (wEi hw) (wtk μ q kc n hw W c) (fun x => μ 47 x) j ∧ (μ (q + 1) j ≤ 512 → wf μ W c j = wtk μ q kc n hw W c j)
theorem col_lt {c i S : Nat} (h : i < S) : c * S + i < (c + 1) * S := by
  rw [Nat.add_mul, Nat.one_mul]
  omega
theorem i1_st {μ u : va_M} {q kc rm : Nat} {n hw : Int} {W : Rw} {c i : Nat} (hG : rG μ q rm) (h5 : μ q 5 = sL W) (hi : i < sL W) (h : i1 μ q kc n hw W c (i + 1)) (hg : gIw μ u q i (c * (sL W + 1) + i) hw (wtk μ q kc n hw W c i)) (h1 : ∀ y : Nat, u (q + 1) y = μ (q + 1) y) (h2 : ∀ y : Nat, u (q + 2) y = μ (q + 2) y) (hk : ∀ y : Nat, u kc y = μ kc y) : i1 u q kc n hw W c i := by
  obtain ⟨g1, g2, g3, g4, g5⟩ := hg
  have e46 : ∀ y : Nat, (c + 1) * (sL W + 1) ≤ y → u 46 y = μ 46 y := fun y hy => g2 y (fun _ => by have := col_lt (c := c) (i := i) (S := sL W + 1) (by omega); omega)
  have eW := wtk_fr (n := n) (hw := hw) e46 h1 hk
  intro j j1 j2
  obtain ⟨m1, m2, -⟩ := (rG_at hG (i := j) (by omega)).1
  have mj : μ (q + 1) j = 513 → ∃ m : Nat, μ (q + 2) j = m ∧ j < m := fun h9 => by
    obtain ⟨m, y1, y2, -⟩ := m2 (Or.inl h9)
    exact ⟨m, y1, y2⟩
  rw [eW]
  unfold lnI
  simp only [h1, h2]
  by_cases hj : j = i
  · subst hj
    refine ⟨⟨fun h9 => (g5 h9).1, fun h9 => ?_, fun h9 => ?_⟩, fun h9 => (g5 h9).2⟩
    · obtain ⟨m, y1, y2⟩ := mj h9
      rw [g3 h9, y1, g1 _ (by omega), g1 _ (by omega)]
    · rw [g4 h9, g1 _ (by omega)]
  · obtain ⟨⟨x1, x2, x3⟩, x4⟩ := h j (by omega) j2
    refine ⟨⟨fun h9 => ?_, fun h9 => ?_, fun h9 => ?_⟩, fun h9 => ?_⟩
    · rw [g1 _ hj]; exact x1 h9
    · obtain ⟨m, y1, y2⟩ := mj h9
      rw [y1, g1 _ hj, g1 _ (by omega), g1 _ (by omega), ← y1]
      exact x2 h9
    · rw [g1 _ hj, g1 _ (by omega)]; exact x3 h9
    · rw [← x4 h9]
      exact g2 _ (fun _ => by omega)
/-- from place i on the answers -/
def i2 (μ : va_M) (q kc : Nat) (n hw : Int) (W : Rw) (c i : Nat) : Prop := ∀ j : Nat, i ≤ j → j < sL W → lnI μ q (wEi hw) (wtk μ q kc n hw W c) (wf μ W c) j ∧ lnC μ q (wEi hw) (wf μ W c) (fun x => μ 47 x) j
theorem i1_o {μ u : va_M} {q kc i fr9 mt n1 : Nat} {n hw : Int} {W : Rw} {c : Nat} (h : i1 μ q kc n hw W c 0) (hi : i < sL W) (hf : fr9 = c * (sL W + 1) + i) (hg : gO μ u q i fr9 hw mt n1) (hq : q + 2 < 46 ∨ 47 < q + 1) (hk : kc ≠ 46) : i1 u q kc n hw W c 0 := by
  obtain ⟨g1, -⟩ := hg
  have e46 : ∀ y : Nat, (c + 1) * (sL W + 1) ≤ y → u 46 y = μ 46 y := fun y hy => g1 _ _ (fun h9 => by have := col_lt (c := c) (i := i) (S := sL W + 1) (by omega); omega)
  have h1 : ∀ y : Nat, u (q + 1) y = μ (q + 1) y := fun y => g1 _ _ (by omega)
  have h2 : ∀ y : Nat, u (q + 2) y = μ (q + 2) y := fun y => g1 _ _ (by omega)
  have eW := wtk_fr (n := n) (hw := hw) e46 h1 (fun y => g1 kc y (by omega))
  intro j j1 j2
  obtain ⟨x1, x2⟩ := h j j1 j2
  rw [eW]
  unfold lnI at x1 ⊢
  have e47 : ∀ y : Nat, u 47 y = μ 47 y := fun y => g1 _ _ (by omega)
  simp only [h1, h2, e47]
  refine ⟨x1, fun h9 => ?_⟩
  rw [← x2 h9]
  refine g1 _ _ (fun h8 => ?_)
  have e : j = i := by omega
  exact h8.2.2 (by rw [← e]; exact h9)
theorem i2_st {μ u : va_M} {q kc rm : Nat} {n hw : Int} {W : Rw} {c i fr9 mt n1 : Nat} (hG : rG μ q rm) (h5 : μ q 5 = sL W) (hi : i < sL W) (h1 : i1 μ q kc n hw W c 0) (h : i2 μ q kc n hw W c (i + 1)) (hf : fr9 = c * (sL W + 1) + i) (hn : n1 = c * (sL W + 1) + (i + 1)) (hm : (mt : Int) = (c * (sL W + 1) : Nat) + μ (q + 2) i + 1) (hg : gO μ u q i fr9 hw mt n1) (hq : q + 2 < 46 ∨ 47 < q + 1) (hk : kc ≠ 46) : i2 u q kc n hw W c i := by
  have hg0 := hg
  obtain ⟨g1, g3, g4, g5⟩ := hg
  have e46 : ∀ y : Nat, (c + 1) * (sL W + 1) ≤ y → u 46 y = μ 46 y := fun y hy => g1 _ _ (fun h9 => by have := col_lt (c := c) (i := i) (S := sL W + 1) (by omega); omega)
  have k1 : ∀ y : Nat, u (q + 1) y = μ (q + 1) y := fun y => g1 _ _ (by omega)
  have k2 : ∀ y : Nat, u (q + 2) y = μ (q + 2) y := fun y => g1 _ _ (by omega)
  have e47 : ∀ y : Nat, u 47 y = μ 47 y := fun y => g1 _ _ (by omega)
  have eW := wtk_fr (n := n) (hw := hw) e46 k1 (fun y => g1 kc y (by omega))
  have ef : ∀ x : Nat, x ≠ i → wf u W c x = wf μ W c x := fun x hx => g1 _ _ (by omega)
  intro j j1 j2
  obtain ⟨m1, m2, m3⟩ := (rG_at hG (i := j) (by omega)).1
  have mj : μ (q + 1) j = 513 → ∃ m : Nat, μ (q + 2) j = m ∧ j < m := fun h9 => by
    obtain ⟨m, y1, y2, -⟩ := m2 (Or.inl h9)
    exact ⟨m, y1, y2⟩
  rw [eW]
  unfold lnI lnC
  simp only [k1, k2, e47]
  by_cases hj : j = i
  · subst hj
    have ev : wf u W c j = u 46 fr9 := by unfold wf; rw [hf]
    have en : wf u W c (j + 1) = μ 46 n1 := by rw [ef _ (by omega), hn]; rfl
    refine ⟨⟨fun h9 => ?_, fun h9 => ?_, fun h9 => ?_⟩, fun h9 => ?_⟩
    · rw [← (h1 j (Nat.zero_le _) j2).2 h9]
      exact g1 _ _ (fun h8 => h8.2.2 h9)
    · obtain ⟨m, y1, y2⟩ := mj h9
      rw [ev, en, g3 h9]
      rw [y1] at hm ⊢
      rw [show ((m : Int) + 1).toNat = m + 1 by omega, ef _ (by omega)]
      unfold wf
      rw [show c * (sL W + 1) + (m + 1) = mt by omega]
    · rw [ev, en, g4 h9]
    · rw [ev, en, g5 h9]
  · obtain ⟨⟨x1, x2, x3⟩, x4⟩ := h j (by omega) j2
    refine ⟨⟨fun h9 => ?_, fun h9 => ?_, fun h9 => ?_⟩, fun h9 => ?_⟩
    · rw [ef _ hj]; exact x1 h9
    · obtain ⟨m, y1, y2⟩ := mj h9
      rw [y1, ef _ hj, ef _ (by omega), ef _ (by omega), ← y1]
      exact x2 h9
    · rw [ef _ hj, ef _ (by omega)]; exact x3 h9
    · rw [ef _ hj, ef (j + 1) (by omega)]; exact x4 h9
theorem cTw_in {μ : va_M} {q kc : Nat} {n hw : Int} {W : Rw} {c : Nat} (hr : rowS μ q W) (hw0 : rW0 W) (ho : rOF W) (h1 : i1 μ q kc n hw W c 0) (h2 : i2 μ q kc n hw W c 0) (he : wf μ W c (sL W) = wEn hw c n) : cTw μ q kc n hw W c := by
  obtain ⟨-, s1, s2⟩ := hr
  have a1 := ln_EI (ei := wEi hw) (tk := wtk μ q kc n hw W c) (f := fun x => μ 47 x) W 0 0 0 hw0 s1 s2 (fun i _ hi => (h1 i (Nat.zero_le _) (by omega)).1)
  have a2 := ln_EI (ei := wEi hw) (tk := wtk μ q kc n hw W c) (f := wf μ W c) W 0 0 0 hw0 s1 s2 (fun i _ hi => (h2 i (Nat.zero_le _) (by omega)).1)
  exact ⟨a2, ln_EC (g := fun x => μ 47 x) W 0 0 0 hw0 ho s1 s2 a2 a1 (fun i _ hi => (h2 i (Nat.zero_le _) (by omega)).2), he⟩
theorem cH_dn {μ : va_M} {q kc : Nat} {n hw : Int} {W : Rw} {k : Int} (hk : 0 ≤ k) (h : cH μ q kc n hw W k) (hT : cTw μ q kc n hw W k.toNat) : cH μ q kc n hw W (k - 1) := fun x x1 x2 => by
  by_cases e : x = k.toNat
  · rw [e]; exact hT
  · exact h x (by omega) x2
theorem gIw_to {μ u : va_M} {q kc : Nat} {i k n hw : Int} {W : Rw} (hk : 0 ≤ k) (hi : 0 ≤ i) (h5 : μ q 5 = sL W) (h : gIw μ u q i.toNat (k * (μ q 5 + 1) + i).toNat hw (lfW hw k n (μ (q + 1) i.toNat) (μ kc k.toNat) (μ 46 (k * (μ q 5 + 1) + i + (μ q 5 + 1) + 1).toNat) (μ 46 (k * (μ q 5 + 1) + i + (μ q 5 + 1)).toNat))) : gIw μ u q i.toNat (k.toNat * (sL W + 1) + i.toNat) hw (wtk μ q kc n hw W k.toNat i.toNat) := by
  have e0 := ix9 hk hi (L := μ q 5) (S := sL W + 1) (by omega)
  have e9 := Int.mul_nonneg hk (show 0 ≤ μ q 5 + 1 by omega)
  have e1 : (k * (μ q 5 + 1) + i + (μ q 5 + 1)).toNat = (k.toNat + 1) * (sL W + 1) + i.toNat := by rw [Nat.add_mul, Nat.one_mul]; omega
  have e2 : (k * (μ q 5 + 1) + i + (μ q 5 + 1) + 1).toNat = (k.toNat + 1) * (sL W + 1) + (i.toNat + 1) := by rw [Nat.add_mul, Nat.one_mul]; omega
  unfold wtk wf
  rw [e0, e1, e2] at h
  rw [show ((k.toNat : Nat) : Int) = k by omega]
  exact h
theorem gO_ix {k i L m : Int} {S : Nat} (hk : 0 ≤ k) (hi : 0 ≤ i) (hm : 0 ≤ m) (hL : L + 1 = S) : (k * (L + 1) + i).toNat = k.toNat * S + i.toNat ∧ (k * (L + 1) + i + 1).toNat = k.toNat * S + (i.toNat + 1) ∧ ((k * (L + 1) + m + 1).toNat : Int) = (k.toNat * S : Nat) + m + 1 := by
  have e0 := ix9 hk hi hL
  have e1 := ix9 hk hm hL
  have e9 := Int.mul_nonneg hk (show 0 ≤ L + 1 by omega)
  refine ⟨e0, by omega, by omega⟩
theorem tkI_01 (sg cd : Int) : tkI sg cd = 0 ∨ tkI sg cd = 1 := by
  unfold tkI
  split
  · exact Or.inr rfl
  · exact Or.inl rfl

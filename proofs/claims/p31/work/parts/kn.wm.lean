/-! walks through a page's tokens: columns of answers, settled by the row and the tokens -/
/-- what holds of each leaf's place -/
def LPw (Q : Nat → Nat → Int → Prop) : Rw → Nat → Prop
  | .leaf, _ => True
  | .inner _ k v l r, p => if k < 3 then Q p k v ∧ LPw Q r (p + 1) else LPw Q l (p + 1) ∧ LPw Q r (p + 2 + sL l)
theorem LPw_2 {Q1 Q2 Q3 : Nat → Nat → Int → Prop} (h : ∀ x k v, Q1 x k v → Q2 x k v → Q3 x k v) : ∀ (w : Rw) (p : Nat), LPw Q1 w p → LPw Q2 w p → LPw Q3 w p
  | .leaf, _, _, _ => trivial
  | .inner z k v l r, p, h1, h2 => by
    rw [LPw] at h1 h2 ⊢
    by_cases hk : k < 3
    · rw [if_pos hk] at h1 h2 ⊢
      exact ⟨h _ _ _ h1.1 h2.1, LPw_2 h r _ h1.2 h2.2⟩
    · rw [if_neg hk] at h1 h2 ⊢
      exact ⟨LPw_2 h l _ h1.1 h2.1, LPw_2 h r _ h1.2 h2.2⟩
theorem LPw_1 {Q1 Q3 : Nat → Nat → Int → Prop} (h : ∀ x k v, Q1 x k v → Q3 x k v) (w : Rw) (p : Nat) (h1 : LPw Q1 w p) : LPw Q3 w p := LPw_2 (fun x k v a _ => h x k v a) w p h1 h1
theorem LPw_rng : ∀ (w : Rw) (p a b : Nat), a ≤ p → p + sL w ≤ b → LPw (fun x _ _ => a ≤ x ∧ x < b) w p
  | .leaf, _, _, _, _, _ => trivial
  | .inner z k v l r, p, a, b, h1, h2 => by
    rw [sL_in9] at h2
    rw [LPw]
    by_cases hk : k < 3
    · rw [if_pos hk] at h2 ⊢
      exact ⟨⟨h1, by omega⟩, LPw_rng r _ a b (by omega) (by omega)⟩
    · rw [if_neg hk] at h2 ⊢
      exact ⟨LPw_rng l _ a b (by omega) (by omega), LPw_rng r _ a b (by omega) (by omega)⟩
theorem LPw_SA {μ : va_M} {c : Nat} : ∀ (w : Rw) (p : Nat), rW0 w → SA μ c w p → LPw (fun x k v => μ c x = sG k v) w p
  | .leaf, _, _, _ => trivial
  | .inner z k v l r, p, ⟨w1, w2, w3⟩, ⟨s1, s2, s3⟩ => by
    rw [LPw]
    by_cases hk : k < 3
    · rw [if_pos hk] at s3 ⊢
      exact ⟨s1, LPw_SA r _ w3 s3⟩
    · rw [if_neg hk] at s3 ⊢
      rw [show p + (2 + sL l) = p + 2 + sL l by omega] at s3
      exact ⟨LPw_SA l _ w2 (s2 (by omega)).1, LPw_SA r _ w3 s3⟩
theorem LPw_AL {P : Nat → Int → Prop} : ∀ (w : Rw) (p : Nat), AL P w → LPw (fun _ k v => k < 2 → P k v) w p
  | .leaf, _, _ => trivial
  | .inner z k v l r, p, ⟨a1, a2, a3⟩ => by
    rw [LPw]
    by_cases hk : k < 3
    · rw [if_pos hk]
      exact ⟨a1, LPw_AL r _ a3⟩
    · rw [if_neg hk]
      exact ⟨LPw_AL l _ a2, LPw_AL r _ a3⟩
theorem LPw_k : ∀ (w : Rw) (p : Nat), LPw (fun _ k _ => k < 3) w p
  | .leaf, _ => trivial
  | .inner z k v l r, p => by
    rw [LPw]
    by_cases hk : k < 3
    · rw [if_pos hk]
      exact ⟨hk, LPw_k r _⟩
    · rw [if_neg hk]
      exact ⟨LPw_k l _, LPw_k r _⟩
theorem LPw_RS {μ : va_M} : ∀ (w : Rw) (p q : Nat), rWF w → RA μ 0 w p → RS μ w p q → LPw (fun x k v => nod μ x = k ∧ μ 578 (μ 4412 x).toNat = v) w q
  | .leaf, _, _, _, _, _ => trivial
  | .inner z k v l r, p, q, ⟨f1, f2, f3, f4, f5, f6, f7, f8⟩, ⟨a1, a2, a3, a4, a5⟩, hs => by
    rw [RS] at hs
    rw [LPw]
    obtain ⟨s1, s2, s3⟩ := hs
    have a1 : μ 507 p = k := a1
    have a2 : μ 578 p = v := a2
    by_cases hk : k < 3
    · rw [if_pos hk] at s3 ⊢
      obtain rfl := f2 hk
      have e0 : rN (Std.DTreeMap.Internal.Impl.leaf : Rw) = 0 := rfl
      rw [e0] at a5
      refine ⟨⟨?_, ?_⟩, LPw_RS r (p + 1) (q + 1) f8 a5 s3⟩
      · unfold nod
        rw [s1]
        exact a1
      · rw [s1]
        exact a2
    · rw [if_neg hk] at s3 ⊢
      obtain ⟨t1, t2, t3, t4, t5, t6⟩ := s3
      rw [rS_sL, show q + 1 + sL l + 1 = q + 2 + sL l by omega] at t6
      exact ⟨LPw_RS l (p + 1) (q + 1) f7 a4 t2, LPw_RS r (p + 1 + rN l) (q + 2 + sL l) f8 a5 t6⟩
theorem EI_lp {ei : Int → Int → Int} {tk tk2 f : Nat → Int} : ∀ (w : Rw) (p : Nat), LPw (fun x _ _ => tk x = tk2 x) w p → EI ei tk f w p → EI ei tk2 f w p
  | .leaf, _, _, _ => trivial
  | .inner z k v l r, p, h, hf => by
    rw [LPw] at h
    rw [EI] at hf ⊢
    by_cases hk : k < 3
    · rw [if_pos hk] at h hf ⊢
      exact ⟨by rw [← h.1]; exact hf.1, EI_lp r (p + 1) h.2 hf.2⟩
    · rw [if_neg hk] at h hf ⊢
      exact ⟨hf.1, EI_lp l (p + 1) h.1 hf.2.1, EI_lp r (p + 2 + sL l) h.2 hf.2.2⟩
/-- column c: what its leaves count is told by the column behind -/
def wkC (ei : Int → Int → Int) (lf : Nat → Nat → Nat → Int → (Nat → Int) → Int) (en : Nat → Int) (W : Rw) (F : Nat → Nat → Int) (c : Nat) : Prop := ∃ tk : Nat → Int, LPw (fun x k v => tk x = lf c x k v (F (c + 1))) W 0 ∧ EI ei tk (F c) W 0 ∧ EC ei (F c) W 0 ∧ F c (sL W) = en c
def wkR (ei : Int → Int → Int) (lf : Nat → Nat → Nat → Int → (Nat → Int) → Int) (en : Nat → Int) (n : Nat) (W : Rw) (F : Nat → Nat → Int) : Prop := ∀ c : Nat, c ≤ n → wkC ei lf en W F c
/-- a leaf is told by two places of the column behind; the last column's by none -/
def lfO (lf : Nat → Nat → Nat → Int → (Nat → Int) → Int) (n : Nat) : Prop := ∀ (c x k : Nat) (v : Int) (f g : Nat → Int), (c < n → f x = g x ∧ f (x + 1) = g (x + 1)) → lf c x k v f = lf c x k v g
theorem wk_one {ei : Int → Int → Int} {lf : Nat → Nat → Nat → Int → (Nat → Int) → Int} {en : Nat → Int} {n : Nat} {W : Rw} {F G : Nat → Nat → Int} (ho : rOF W) (hl : lfO lf n) (hF : wkR ei lf en n W F) (hG : wkR ei lf en n W G) : ∀ d : Nat, d ≤ n → ∀ x : Nat, x ≤ sL W → F (n - d) x = G (n - d) x
  | 0, _, x, hx => by
    obtain ⟨t1, a1, a2, a3, a4⟩ := hF n (Nat.le_refl _)
    obtain ⟨t2, b1, b2, b3, b4⟩ := hG n (Nat.le_refl _)
    have b5 := EI_lp (tk2 := t1) W 0 (LPw_2 (fun x k v h1 h2 => by rw [h1, h2]; exact hl _ _ _ _ _ _ (fun h => by omega)) W 0 b1 a1) b2
    exact EQ_one W 0 ho a2 b5 a3 b3 (by rw [Nat.zero_add, a4, b4]) x (Nat.zero_le _) (by omega)
  | d + 1, hd, x, hx => by
    have ih := wk_one ho hl hF hG d (by omega)
    obtain ⟨t1, a1, a2, a3, a4⟩ := hF (n - (d + 1)) (by omega)
    obtain ⟨t2, b1, b2, b3, b4⟩ := hG (n - (d + 1)) (by omega)
    rw [show n - (d + 1) + 1 = n - d by omega] at a1 b1
    have b5 := EI_lp (tk2 := t1) W 0 (LPw_2 (Q1 := fun x k v => t2 x = lf (n - (d + 1)) x k v (G (n - d)) ∧ (0 ≤ x ∧ x < sL W)) (fun x k v h1 h2 => by rw [h1.1, h2]; exact hl _ _ _ _ _ _ (fun _ => ⟨(ih x (by omega)).symm, (ih (x + 1) (by omega)).symm⟩)) W 0 (LPw_2 (fun x k v h1 h2 => ⟨h1, h2⟩) W 0 b1 (LPw_rng W 0 0 (sL W) (Nat.le_refl _) (by omega))) a1) b2
    exact EQ_one W 0 ho a2 b5 a3 b3 (by rw [Nat.zero_add, a4, b4]) x (Nat.zero_le _) (by omega)
/-- how many are left out, at least -/
def lfU (code : Nat → Int) (n : Nat) (c x k : Nat) (v : Int) (f : Nat → Int) : Int := if c < n then (if tkI (sG k v) (code c) = 1 then min (min 1000000 (1 + f x)) (f (x + 1)) else min 1000000 (1 + f x)) else 1000000
def enU (n c : Nat) : Int := (n : Int) - c
theorem lfU_O (code : Nat → Int) (n : Nat) : lfO (lfU code n) n := fun c x k v f g h => by
  unfold lfU
  by_cases hc : c < n
  · rw [if_pos hc, if_pos hc, (h hc).1, (h hc).2]
  · rw [if_neg hc, if_neg hc]
def cuR (W : Rw) (code : Nat → Int) (n : Nat) (z : Int) : Prop := ∃ F, wkR (wEi 1) (lfU code n) (enU n) n W F ∧ z = if F 0 0 ≥ 1000000 then -1 else F 0 0
theorem cuR_1 {W : Rw} {code : Nat → Int} {n : Nat} {z y : Int} (ho : rOF W) (h1 : cuR W code n z) (h2 : cuR W code n y) : z = y := by
  obtain ⟨F, f1, f2⟩ := h1
  obtain ⟨G, g1, g2⟩ := h2
  have h9 := wk_one ho (lfU_O code n) f1 g1 n (Nat.le_refl _) 0 (Nat.zero_le _)
  rw [Nat.sub_self] at h9
  rw [f2, g2, h9]
theorem cu_code {W : Rw} {c1 c2 : Nat → Int} {n : Nat} {z : Int} (h : ∀ i : Nat, i < n → c1 i = c2 i) (h1 : cuR W c1 n z) : cuR W c2 n z := by
  obtain ⟨F, f1, f2⟩ := h1
  refine ⟨F, fun c hc => ?_, f2⟩
  obtain ⟨t, a1, a2⟩ := f1 c hc
  refine ⟨t, LPw_1 (fun x k v e => ?_) W 0 a1, a2⟩
  rw [e]
  unfold lfU
  by_cases hn : c < n
  · rw [if_pos hn, if_pos hn, h c hn]
  · rw [if_neg hn, if_neg hn]
theorem EI_min {tk f : Nat → Int} : ∀ (w : Rw) (p : Nat), EI (wEi 1) tk f w p → EI (wEi 1) (fun x => min 1000000 (tk x)) (fun x => min 1000000 (f x)) w p
  | .leaf, _, _ => trivial
  | .inner z k v l r, p, h => by
    rw [EI] at h ⊢
    by_cases hk : k < 3
    · rw [if_pos hk] at h ⊢
      exact ⟨by show min 1000000 (f p) = min 1000000 (tk p); rw [h.1], EI_min r _ h.2⟩
    · rw [if_neg hk] at h ⊢
      refine ⟨?_, EI_min l _ h.2.1, EI_min r _ h.2.2⟩
      show min 1000000 (f p) = if k = 3 then wEi 1 (min 1000000 (f (p + 1))) (min 1000000 (f (p + 2 + sL l))) else min 1000000 (f (p + 1))
      rw [h.1]
      by_cases h3 : k = 3
      · rw [if_pos h3, if_pos h3]
        unfold wEi
        rw [if_neg (by decide), if_pos rfl, if_neg (by decide), if_pos rfl]
        omega
      · rw [if_neg h3, if_neg h3]
theorem EC_min {f : Nat → Int} : ∀ (w : Rw) (p : Nat), EC (wEi 1) f w p → EC (wEi 1) (fun x => min 1000000 (f x)) w p
  | .leaf, _, _ => trivial
  | .inner z k v l r, p, h => by
    rw [EC] at h ⊢
    by_cases hk : k < 3
    · rw [if_pos hk] at h ⊢
      exact EC_min r _ h
    · rw [if_neg hk] at h ⊢
      refine ⟨?_, EC_min l _ h.2.1, EC_min r _ h.2.2⟩
      show min 1000000 (f (p + 1 + sL l)) = if k = 3 then min 1000000 (f (p + 2 + sL l)) else wEi 1 (min 1000000 (f (p + 1))) (min 1000000 (f (p + 2 + sL l)))
      rw [h.1]
      by_cases h3 : k = 3
      · rw [if_pos h3, if_pos h3]
      · rw [if_neg h3, if_neg h3]
        unfold wEi
        rw [if_neg (by decide), if_pos rfl, if_neg (by decide), if_pos rfl]
        omega
theorem cu_cls {u : va_M} {q kc n : Nat} {W : Rw} (hn60 : n ≤ 60) (hW : rowS u q W) (hw : rW0 W) (h : cH u q kc n 1 W (-1)) (hp : ∀ c x : Nat, 0 ≤ wf u W c x) : cuR W (u kc) n (if wf u W 0 0 ≥ 1000000 then -1 else wf u W 0 0) := by
  refine ⟨fun c x => min 1000000 (wf u W c x), fun c hc => ?_, ?_⟩
  · obtain ⟨h1, h2, h3⟩ := h c (by omega) (by omega)
    refine ⟨fun x => min 1000000 (wtk u q kc n 1 W c x), LPw_1 (fun x k v e => ?_) W 0 (LPw_SA W 0 hw hW.2.1), EI_min W 0 h1, EC_min W 0 h2, ?_⟩
    · show min 1000000 (wtk u q kc n 1 W c x) = _
      unfold wtk lfW lfU
      rw [e]
      by_cases hn : c < n
      · rw [if_pos (by omega), if_pos rfl, if_pos hn]
        by_cases ht : tkI (sG k v) (u kc c) = 1
        · rw [if_pos ht, if_pos ht]
          show min 1000000 (min (wf u W (c + 1) (x + 1)) (wf u W (c + 1) x + 1)) = min (min 1000000 (1 + min 1000000 (wf u W (c + 1) x))) (min 1000000 (wf u W (c + 1) (x + 1)))
          omega
        · rw [if_neg ht, if_neg ht]
          show min 1000000 (min (wNo 1 c) (wf u W (c + 1) x + 1)) = min 1000000 (1 + min 1000000 (wf u W (c + 1) x))
          unfold wNo
          rw [if_neg (by decide), if_pos rfl]
          omega
      · rw [if_neg (by omega), if_neg hn]
        unfold wNo
        rw [if_neg (by decide), if_pos rfl]
        omega
    · show min 1000000 (wf u W c (sL W)) = _
      rw [h3]
      unfold wEn enU
      rw [if_neg (by decide), if_pos rfl]
      omega
  · show _ = if min 1000000 (wf u W 0 0) ≥ 1000000 then -1 else min 1000000 (wf u W 0 0)
    by_cases h9 : wf u W 0 0 ≥ 1000000
    · rw [if_pos h9, if_pos (by omega)]
    · rw [if_neg h9, if_neg (by omega)]
      omega

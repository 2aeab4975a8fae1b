/-! walks: what holds of a column of answers, told of the row; it is settled by it -/
/-- all rows in repeats and options ask for a token -/
def rOF : Rw → Prop
  | .leaf => True
  | .inner _ k _ l r => (3 ≤ k → rPl l) ∧ rOF l ∧ rOF r
/-- forward: tokens, the beginnings of options and repeats -/
def EI (ei : Int → Int → Int) (tk f : Nat → Int) : Rw → Nat → Prop
  | .leaf, _ => True
  | .inner _ k _ l r, p => if k < 3 then f p = tk p ∧ EI ei tk f r (p + 1) else (f p = if k = 3 then ei (f (p + 1)) (f (p + 2 + sL l)) else f (p + 1)) ∧ EI ei tk f l (p + 1) ∧ EI ei tk f r (p + 2 + sL l)
/-- their ends -/
def EC (ei : Int → Int → Int) (f : Nat → Int) : Rw → Nat → Prop
  | .leaf, _ => True
  | .inner _ k _ l r, p => if k < 3 then EC ei f r (p + 1) else (f (p + 1 + sL l) = if k = 3 then f (p + 2 + sL l) else ei (f (p + 1)) (f (p + 2 + sL l))) ∧ EC ei f l (p + 1) ∧ EC ei f r (p + 2 + sL l)
theorem EI_firm {ei : Int → Int → Int} {tk f g : Nat → Int} : ∀ (w : Rw) (p : Nat), rPl w → rOF w → EI ei tk f w p → EI ei tk g w p → f p = g p
  | .leaf, _, h, _, _, _ => h.elim
  | .inner z k v l r, p, h, ⟨o1, o2, o3⟩, hf, hg => by
    rw [EI] at hf hg
    by_cases hk : k < 3
    · rw [if_pos hk] at hf hg
      rw [hf.1, hg.1]
    · rw [if_neg hk] at hf hg
      obtain ⟨f1, f2, f3⟩ := hf
      obtain ⟨g1, g2, g3⟩ := hg
      have i1 := EI_firm l (p + 1) (o1 (by omega)) o2 f2 g2
      by_cases h3 : k = 3
      · rw [if_pos h3] at f1 g1
        have hr : rPl r := h.elim (fun h9 => absurd h3 h9) (fun h9 => h9)
        have i2 := EI_firm r (p + 2 + sL l) hr o3 f3 g3
        rw [f1, g1, i1, i2]
      · rw [if_neg h3] at f1 g1
        rw [f1, g1, i1]
theorem sL_in9 {z k : Nat} {v : Int} {l r : Rw} : sL (Std.DTreeMap.Internal.Impl.inner z k v l r : Rw) = (if k < 3 then 1 else 2 + sL l) + sL r := rfl
theorem EQ_one {ei : Int → Int → Int} {tk f g : Nat → Int} : ∀ (w : Rw) (p : Nat), rOF w → EI ei tk f w p → EI ei tk g w p → EC ei f w p → EC ei g w p → f (p + sL w) = g (p + sL w) → ∀ x : Nat, p ≤ x → x ≤ p + sL w → f x = g x
  | .leaf, p, _, _, _, _, _, he, x, h1, h2 => by
    have e0 : sL (Std.DTreeMap.Internal.Impl.leaf : Rw) = 0 := rfl
    rw [e0] at he h2
    rw [show x = p + 0 by omega]
    exact he
  | .inner z k v l r, p, ⟨o1, o2, o3⟩, hf, hg, cf, cg, he, x, h1, h2 => by
    rw [EI] at hf hg
    rw [EC] at cf cg
    rw [sL_in9] at he h2
    by_cases hk : k < 3
    · rw [if_pos hk] at hf hg cf cg he h2
      have i1 := EQ_one r (p + 1) o3 hf.2 hg.2 cf cg (by rw [show p + 1 + sL r = p + (1 + sL r) by omega]; exact he)
      by_cases hx : x = p
      · rw [hx, hf.1, hg.1]
      · exact i1 x (by omega) (by omega)
    · rw [if_neg hk] at hf hg cf cg he h2
      obtain ⟨f1, f2, f3⟩ := hf
      obtain ⟨g1, g2, g3⟩ := hg
      obtain ⟨c1, c2, c3⟩ := cf
      obtain ⟨d1, d2, d3⟩ := cg
      have i2 := EQ_one r (p + 2 + sL l) o3 f3 g3 c3 d3 (by rw [show p + 2 + sL l + sL r = p + (2 + sL l + sL r) by omega]; exact he)
      have ie := i2 (p + 2 + sL l) (Nat.le_refl _) (by omega)
      have ib := EI_firm l (p + 1) (o1 (by omega)) o2 f2 g2
      have ic : f (p + 1 + sL l) = g (p + 1 + sL l) := by rw [c1, d1, ib, ie]
      have i1 := EQ_one l (p + 1) o2 f2 g2 c2 d2 ic
      by_cases hx : x = p
      · rw [hx, f1, g1, ib, ie]
      · by_cases hx2 : x ≤ p + 1 + sL l
        · exact i1 x (by omega) hx2
        · exact i2 x (by omega) (by omega)
/-- the same told of the line's places -/
def lnI (μ : va_M) (q : Nat) (ei : Int → Int → Int) (tk f : Nat → Int) (i : Nat) : Prop :=
  (μ (q + 1) i ≤ 512 → f i = tk i) ∧ (μ (q + 1) i = 513 → f i = ei (f (i + 1)) (f (μ (q + 2) i + 1).toNat)) ∧ (μ (q + 1) i = 514 → f i = f (i + 1))
def lnC (μ : va_M) (q : Nat) (ei : Int → Int → Int) (f g : Nat → Int) (i : Nat) : Prop :=
  μ (q + 1) i = 515 → f i = if μ (q + 1) (μ (q + 2) i).toNat = 514 then ei (g (μ (q + 2) i + 1).toNat) (f (i + 1)) else f (i + 1)
theorem sG_le {k : Nat} {v : Int} {l : Rw} (h : iW0 k v l) : (k < 3 → sG k v ≤ 512) ∧ (k = 3 → sG k v = 513) ∧ (¬ k < 3 → k ≠ 3 → sG k v = 514) := by
  obtain ⟨h1, h3, h4, h5, h6⟩ := h
  unfold sG
  refine ⟨fun hk => ?_, fun hk => ?_, fun hk h9 => ?_⟩
  · split
    · omega
    · split <;> omega
  · rw [if_neg (by omega), if_neg (by omega)]
    omega
  · rw [if_neg (by omega), if_neg (by omega)]
    omega
theorem ln_EI {μ : va_M} {q : Nat} {ei : Int → Int → Int} {tk f : Nat → Int} : ∀ (w : Rw) (p a n : Nat), rW0 w → SA μ (q + 1) w p → SS μ q w p a n → (∀ i : Nat, p ≤ i → i < p + sL w → lnI μ q ei tk f i) → EI ei tk f w p
  | .leaf, _, _, _, _, _, _, _ => trivial
  | .inner z k v l r, p, a, n, ⟨w1, w2, w3⟩, ⟨s1, s2, s3⟩, ⟨t1, t2, t3⟩, h => by
    rw [sL_in9] at h
    rw [EI]
    obtain ⟨g1, g2, g3⟩ := sG_le w1
    by_cases hk : k < 3
    · rw [if_pos hk] at h s3 t3 ⊢
      refine ⟨(h p (Nat.le_refl _) (by omega)).1 (by rw [s1]; exact g1 hk), ?_⟩
      exact ln_EI r (p + 1) _ _ w3 s3 t3 (fun i i1 i2 => h i (by omega) (by omega))
    · rw [if_neg hk] at h s3 t3 ⊢
      obtain ⟨u1, u2⟩ := s2 (by omega)
      obtain ⟨v1, v2, -, -⟩ := t2 (by omega)
      have m1 := t1.1
      rw [if_neg hk] at m1
      refine ⟨?_, ln_EI l (p + 1) _ _ w2 u1 v1 (fun i i1 i2 => h i (by omega) (by omega)), ?_⟩
      · obtain ⟨h1, h2, h3⟩ := h p (Nat.le_refl _) (by omega)
        by_cases h9 : k = 3
        · rw [if_pos h9]
          have h8 := h2 (by rw [s1]; exact g2 h9)
          rw [m1, show (((p + 1 + sL l : Nat) : Int) + 1).toNat = p + 2 + sL l by omega] at h8
          exact h8
        · rw [if_neg h9]
          exact h3 (by rw [s1]; exact g3 hk h9)
      · rw [show p + (2 + sL l) = p + 2 + sL l by omega] at s3 t3
        exact ln_EI r (p + 2 + sL l) _ _ w3 s3 t3 (fun i i1 i2 => h i (by omega) (by omega))
theorem ln_EC {μ : va_M} {q : Nat} {ei : Int → Int → Int} {tk f g : Nat → Int} : ∀ (w : Rw) (p a n : Nat), rW0 w → rOF w → SA μ (q + 1) w p → SS μ q w p a n → EI ei tk f w p → EI ei tk g w p → (∀ i : Nat, p ≤ i → i < p + sL w → lnC μ q ei f g i) → EC ei f w p
  | .leaf, _, _, _, _, _, _, _, _, _, _ => trivial
  | .inner z k v l r, p, a, n, ⟨w1, w2, w3⟩, ⟨o1, o2, o3⟩, ⟨s1, s2, s3⟩, ⟨t1, t2, t3⟩, hf, hg, h => by
    rw [sL_in9] at h
    rw [EI] at hf hg
    rw [EC]
    obtain ⟨g1, g2, g3⟩ := sG_le w1
    by_cases hk : k < 3
    · rw [if_pos hk] at h s3 t3 hf hg ⊢
      exact ln_EC r (p + 1) _ _ w3 o3 s3 t3 hf.2 hg.2 (fun i i1 i2 => h i (by omega) (by omega))
    · rw [if_neg hk] at h s3 t3 hf hg ⊢
      obtain ⟨u1, u2⟩ := s2 (by omega)
      obtain ⟨v1, v2, -, -⟩ := t2 (by omega)
      obtain ⟨f1, f2, f3⟩ := hf
      obtain ⟨j1, j2, j3⟩ := hg
      refine ⟨?_, ln_EC l (p + 1) _ _ w2 o2 u1 v1 f2 j2 (fun i i1 i2 => h i (by omega) (by omega)), ?_⟩
      · have h8 := h (p + 1 + sL l) (by omega) (by omega) u2
        rw [v2, show ((p : Nat) : Int).toNat = p from rfl, s1, show ((p : Nat) : Int) + 1 = ((p + 1 : Nat) : Int) by omega, show ((p + 1 : Nat) : Int).toNat = p + 1 from rfl, show p + 1 + sL l + 1 = p + 2 + sL l by omega] at h8
        by_cases h9 : k = 3
        · rw [if_pos h9]
          rw [if_neg (by rw [g2 h9]; decide)] at h8
          exact h8
        · rw [if_neg h9]
          rw [if_pos (g3 hk h9)] at h8
          rw [EI_firm l (p + 1) (o1 (by omega)) o2 f2 j2]
          exact h8
      · rw [show p + (2 + sL l) = p + 2 + sL l by omega] at s3 t3
        exact ln_EC r (p + 2 + sL l) _ _ w3 o3 s3 t3 f3 j3 (fun i i1 i2 => h i (by omega) (by omega))
/-- the same told of the reference's states -/
theorem rS_sL : ∀ w : Rw, rS w = sL w
  | .leaf => rfl
  | .inner z k v l r => by rw [rS_in, sL_in9, rS_sL l, rS_sL r]
def stW (μ : va_M) (ei : Int → Int → Int) (tk f : Nat → Int) (x : Nat) : Prop :=
  f x = if nod μ x < 3 then tk x else if μ 4414 x = 0 then (if nod μ x = 3 then ei (f (x + 1)) (f (μ 4413 x + 1).toNat) else f (x + 1)) else (if nod μ x = 3 then f (x + 1) else ei (f (μ 4413 x + 1).toNat) (f (x + 1)))
theorem st_EQ {μ : va_M} {ei : Int → Int → Int} {tk f : Nat → Int} : ∀ (w : Rw) (p q : Nat), rWF w → RA μ 0 w p → RS μ w p q → (∀ x : Nat, q ≤ x → x < q + sL w → stW μ ei tk f x) → EI ei tk f w q ∧ EC ei f w q
  | .leaf, _, _, _, _, _, _ => ⟨trivial, trivial⟩
  | .inner z k v l r, p, q, ⟨f1, f2, f3, f4, f5, f6, f7, f8⟩, ⟨a1, a2, a3, a4, a5⟩, hs, h => by
    rw [RS] at hs
    rw [sL_in9] at h
    rw [EI, EC]
    obtain ⟨s1, s2, s3⟩ := hs
    have a1 : μ 507 p = k := a1
    have n1 : nod μ q = k := by unfold nod; rw [s1, show ((p : Nat) : Int).toNat = p from rfl]; exact a1
    have h0 := h q (Nat.le_refl _) (by split <;> omega)
    unfold stW at h0
    rw [n1, s2] at h0
    by_cases hk : k < 3
    · rw [if_pos hk] at s3 h ⊢
      rw [if_pos hk]
      rw [if_pos (by omega)] at h0
      obtain rfl := f2 hk
      have e0 : rN (Std.DTreeMap.Internal.Impl.leaf : Rw) = 0 := rfl
      rw [e0] at a5
      obtain ⟨i1, i2⟩ := st_EQ r (p + 1) (q + 1) f8 a5 s3 (fun x x1 x2 => h x (by omega) (by omega))
      exact ⟨⟨h0, i1⟩, i2⟩
    · rw [if_neg hk] at s3 h ⊢
      rw [if_neg hk]
      obtain ⟨t1, t2, t3, t4, t5, t6⟩ := s3
      rw [rS_sL] at t1 t3 t4 t5 t6
      rw [if_neg (by omega), if_pos rfl, t1, show (((q + 1 + sL l : Nat) : Int) + 1).toNat = q + 2 + sL l by omega] at h0
      have n2 : nod μ (q + 1 + sL l) = k := by unfold nod; rw [t3, show ((p : Nat) : Int).toNat = p from rfl]; exact a1
      have h1 := h (q + 1 + sL l) (by omega) (by omega)
      unfold stW at h1
      rw [n2, t4, t5, if_neg (by omega), if_neg (by decide), show (((q : Nat) : Int) + 1).toNat = q + 1 by omega, show q + 1 + sL l + 1 = q + 2 + sL l by omega] at h1
      rw [show q + 1 + sL l + 1 = q + 2 + sL l by omega] at t6
      obtain ⟨i1, i2⟩ := st_EQ l (p + 1) (q + 1) f7 a4 t2 (fun x x1 x2 => h x (by omega) (by omega))
      obtain ⟨i3, i4⟩ := st_EQ r (p + 1 + rN l) (q + 2 + sL l) f8 a5 t6 (fun x x1 x2 => h x (by omega) (by omega))
      by_cases c3 : k = 3
      · rw [if_pos (show (k : Int) = 3 by omega)] at h0 h1
        exact ⟨⟨by rw [if_pos c3]; exact h0, i1, i3⟩, by rw [if_pos c3]; exact h1, i2, i4⟩
      · rw [if_neg (show ¬ (k : Int) = 3 by omega)] at h0 h1
        exact ⟨⟨by rw [if_neg c3]; exact h0, i1, i3⟩, by rw [if_neg c3]; exact h1, i2, i4⟩
theorem rPg_OF : ∀ w : Rw, rWF w → rPg w → rOF w
  | .leaf, _, _ => trivial
  | .inner z k v l r, ⟨f1, f2, f3, f4, f5, f6, f7, f8⟩, ⟨h1, h2, h3⟩ => ⟨fun h => rPg_Pl _ h2 (f3 h), rPg_OF l f7 h2, rPg_OF r f8 h3⟩
def wEi (hw v w : Int) : Int := if hw = 0 then min (v + w) 1000000000 else if hw = 1 then min v w else max v w
theorem PL_OF : ∀ (w : Rw) {L : Nat} {V : Nat → Prop} {f : Nat → Nat}, rWF w → PL w L V f → rOF w
  | .leaf, _, _, _, _, _ => trivial
  | .inner z k v l r, L, V, f, hw, ⟨f1, f2, h1, h2, h3⟩ => by
    have hr := PL_OF r hw.2.2.2.2.2.2.2 h2
    have hwl := hw.2.2.2.2.2.2.1
    rcases h3 with ⟨a, _⟩ | ⟨a, b, _⟩ | ⟨a, b, L2, c, d, e⟩ | ⟨a, b, T, g1, g2, V2, c, d, _⟩
    · refine ⟨fun h => by omega, ?_, hr⟩
      rw [hw.2.1 a]; trivial
    · exact ⟨fun h => rPg_Pl _ b (hw.2.2.1 (by omega)), rPg_OF l hwl b, hr⟩
    · refine ⟨fun h => ?_, PL_OF l hwl e, hr⟩
      have hne := hw.2.2.1 (show 3 ≤ k by omega)
      cases l with
      | leaf => exact absurd rfl hne
      | inner z5 k5 v5 l5 r5 => exact Or.inl b.1
    · exact ⟨fun _ => b, PL_OF l hwl d, hr⟩
theorem JW_OF {w : Rw} (h : JW w) : rOF w := by
  obtain ⟨h1, h2, L, f, h3, h4, h5⟩ := h
  exact PL_OF w h1 h4

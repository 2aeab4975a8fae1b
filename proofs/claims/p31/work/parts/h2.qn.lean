/-! nodes once more: what a row comes to, by the tokens of the first page in it and by how many of one page went through it -/
def zTh (l : Nat) : Nat := if l = 0 then 2 else if l = 1 then 3 else if l = 2 then 7 else if l = 3 then 14 else 28
def zT2 (l : Nat) : Nat := if l ≤ 1 then 2 else if l = 2 then 6 else if l = 3 then 14 else 28
def ztab : List Nat := [321, 321, 321, 321, 321, 469, 469, 469, 469, 469, 617, 617, 617, 617, 617, 321, 201, 134, 67, 0, 469, 349, 162, 95, 14, 617, 497, 243, 123, 3, 374, 282, 215, 148, 67, 522, 282, 215, 148, 67, 670, 363, 243, 162, 28, 374, 254, 187, 120, 39, 522, 335, 215, 134, 0, 670, 416, 296, 162, 0]
def zps (k F l : Nat) : Nat := ztab.getD (k * 15 + (min F 3 - 1) * 5 + l) 0
def zmt : List Nat := [321, 201, 134, 67, 0, 469, 282, 162, 95, 0, 617, 363, 243, 123, 0]
def zmm (F l : Nat) : Nat := zmt.getD ((min F 3 - 1) * 5 + l) 0
theorem zps_m (k F l : Nat) : zps k F l = zps k (min F 3) l := by
  unfold zps
  rw [show min (min F 3) 3 = min F 3 by omega]
theorem zps_up {k F l : Nat} (hk : k < 4) (hl : l < 5) (hF : 1 ≤ F) : zps k (F + 1) l ≤ zps k F l + 148 := by
  have T : ∀ k, k < 4 → ∀ F, F < 4 → ∀ l, l < 5 → 1 ≤ F → zps k (F + 1) l ≤ zps k F l + 148 := by decide +kernel
  have h := T k hk (min F 3) (by (first | ((try clear h); (try clear hk); omega) | omega)) l hl (by (first | ((try clear h); (try clear hk); omega) | omega))
  rw [zps_m k F l, zps_m k (F + 1) l, show min (F + 1) 3 = min (min F 3 + 1) 3 by (first | ((try clear h); (try clear hk); omega) | omega), ← zps_m]
  exact h
theorem zps_ra {k F G l : Nat} (hk : k < 4) (hl : l < 5) (h1 : 1 ≤ F) (h : F ≤ G) : zps k G l ≤ zps k F l + 148 * (G - F) := by
  obtain ⟨d, rfl⟩ : ∃ d, G = F + d := ⟨G - F, by (first | ((try clear h1); (try clear hk); omega) | omega)⟩
  clear h
  rw [Nat.add_sub_cancel_left]
  induction d with
  | zero => exact Nat.le_refl _
  | succ d ih =>
    have h2 := zps_up (F := F + d) hk hl (by (first | ((try clear h2); (try clear h); (try clear hk); omega) | omega))
    show zps k (F + d + 1) l ≤ _
    (first | ((try clear h); (try clear h1); (try clear hk); omega) | omega)
theorem zps_ev {k F l : Nat} (hk : k < 4) (hl : l < 4) (h1 : 1 ≤ F) (h2 : k = 1 → 3 ≤ F) (h3 : k = 0 → l = 0) : zps 1 F (l + 1) + 120 ≤ zps k F l := by
  have T0 : ∀ F, F < 4 → 1 ≤ F → zps 1 F 1 + 120 ≤ zps 0 F 0 := by decide +kernel
  have T1 : ∀ l, l < 4 → zps 1 3 (l + 1) + 120 ≤ zps 1 3 l := by decide +kernel
  have T2 : ∀ F, F < 4 → ∀ l, l < 4 → 1 ≤ F → zps 1 F (l + 1) + 120 ≤ zps 2 F l ∧ zps 1 F (l + 1) + 120 ≤ zps 3 F l := by decide +kernel
  rw [zps_m 1 F (l + 1), zps_m k F l]
  have hk4 : k = 0 ∨ k = 1 ∨ k = 2 ∨ k = 3 := by (first | ((try clear hk4); (try clear T2); (try clear T1); (try clear T0); (try clear h3); (try clear h2); (try clear h1); omega) | omega)
  rcases hk4 with rfl | rfl | rfl | rfl
  · obtain rfl := h3 rfl
    exact T0 (min F 3) (by (first | ((try clear hk4); (try clear T2); (try clear T1); (try clear T0); (try clear h3); (try clear h2); (try clear hk); omega) | omega)) (by (first | ((try clear hk4); (try clear T2); (try clear T1); (try clear T0); (try clear h3); (try clear h2); (try clear hk); omega) | omega))
  · rw [show min F 3 = 3 by have := h2 rfl; (first | ((try clear hk4); (try clear T2); (try clear T1); (try clear T0); (try clear h3); (try clear h2); (try clear h1); (try clear hk); omega) | omega)]
    exact T1 l hl
  · exact (T2 (min F 3) (by (first | ((try clear hk4); (try clear T2); (try clear T1); (try clear T0); (try clear h3); (try clear h2); (try clear hk); omega) | omega)) l hl (by (first | ((try clear hk4); (try clear T2); (try clear T1); (try clear T0); (try clear h3); (try clear h2); (try clear hk); omega) | omega))).1
  · exact (T2 (min F 3) (by (first | ((try clear hk4); (try clear T2); (try clear T1); (try clear T0); (try clear h3); (try clear h2); (try clear hk); omega) | omega)) l hl (by (first | ((try clear hk4); (try clear T2); (try clear T1); (try clear T0); (try clear h3); (try clear h2); (try clear hk); omega) | omega))).2
theorem zps_fo {F l m : Nat} (hl : l < 5) (h1 : 1 ≤ F) (hm : m = max l 1) : zps 2 (F + 1) m ≤ zps 3 F l + 28 := by
  have T : ∀ F, F < 4 → ∀ l, l < 5 → 1 ≤ F → zps 2 (F + 1) (max l 1) ≤ zps 3 F l + 28 := by decide +kernel
  have h := T (min F 3) (by (first | ((try clear h); (try clear hm); omega) | omega)) l hl (by (first | ((try clear h); (try clear hm); omega) | omega))
  rw [hm, zps_m 3 F l, zps_m 2 (F + 1) _, show min (F + 1) 3 = min (min F 3 + 1) 3 by (first | ((try clear h); (try clear hm); omega) | omega), ← zps_m]
  exact h
theorem zps_fo2 {k F l : Nat} (hk : k = 1 ∨ k = 2) (hl : l < 5) (hl1 : 1 ≤ l) (h1 : 1 ≤ F) (h2 : k = 1 → 3 ≤ F) : zps 2 (F + 2) l ≤ zps k F l + 176 := by
  have T1 : ∀ l, l < 4 → zps 2 3 (l + 1) ≤ zps 1 3 (l + 1) + 176 := by decide +kernel
  have T2 : ∀ F, F < 4 → ∀ l, l < 4 → 1 ≤ F → zps 2 3 (l + 1) ≤ zps 2 F (l + 1) + 176 := by decide +kernel
  obtain ⟨n, rfl⟩ : ∃ n, l = n + 1 := ⟨l - 1, by (first | ((try clear n); (try clear T2); (try clear T1); (try clear h2); (try clear h1); (try clear hk); omega) | omega)⟩
  rw [zps_m k F (n + 1), zps_m 2 (F + 2) (n + 1), show min (F + 2) 3 = 3 by (first | ((try clear T2); (try clear T1); (try clear h2); (try clear hl1); (try clear hk); omega) | omega)]
  rcases hk with rfl | rfl
  · rw [show min F 3 = 3 by have := h2 rfl; (first | ((try clear n); (try clear T2); (try clear T1); (try clear h2); (try clear h1); (try clear hl1); (try clear hk); omega) | omega)]
    exact T1 n (by (first | ((try clear T2); (try clear T1); (try clear h2); (try clear h1); (try clear hl1); (try clear hk); omega) | omega))
  · exact T2 (min F 3) (by (first | ((try clear T2); (try clear T1); (try clear h2); (try clear hl1); (try clear hk); omega) | omega)) n (by (first | ((try clear T2); (try clear T1); (try clear h2); (try clear h1); (try clear hl1); (try clear hk); omega) | omega)) (by (first | ((try clear T2); (try clear T1); (try clear h2); (try clear hl1); (try clear hk); omega) | omega))
theorem zps_o {k F l : Nat} (hk : k < 4) (hl : l < 5) (h1 : 1 ≤ F) : zps 3 F l ≤ zps k F l + 53 ∧ zps 3 F 4 ≤ zps k F l + 39 := by
  have T : ∀ k, k < 4 → ∀ F, F < 4 → ∀ l, l < 5 → 1 ≤ F → zps 3 F l ≤ zps k F l + 53 ∧ zps 3 F 4 ≤ zps k F l + 39 := by decide +kernel
  have h := T k hk (min F 3) (by (first | ((try clear h); (try clear hk); omega) | omega)) l hl (by (first | ((try clear h); (try clear hk); omega) | omega))
  rw [zps_m k F l, zps_m 3 F l, zps_m 3 F 4]
  exact h
theorem zps_j {k F l k2 F2 l2 m : Nat} (hk : k < 4) (hl : l < 5) (h1 : 1 ≤ F) (hk2 : k2 < 4) (hl2 : l2 < 5) (h2 : 1 ≤ F2) (hm : m = max l l2) : zps 3 (F + F2) m ≤ zps k F l + zps k2 F2 l2 := by
  have T1 : ∀ k, k < 4 → ∀ F, F < 4 → ∀ l, l < 5 → 1 ≤ F → zmm F l ≤ zps k F l := by decide +kernel
  have T2 : ∀ F, F < 3 → ∀ l, l < 5 → ∀ F2, F2 < 3 → ∀ l2, l2 < 5 → zps 3 (F + 1 + (F2 + 1)) (max l l2) ≤ zmm (F + 1) l + zmm (F2 + 1) l2 := by decide +kernel
  have a1 := T1 k hk (min F 3) (by (first | ((try clear a1); (try clear T2); (try clear T1); (try clear hm); (try clear h2); (try clear hl2); (try clear hk2); (try clear hk); omega) | omega)) l hl (by (first | ((try clear a1); (try clear T2); (try clear T1); (try clear hm); (try clear h2); (try clear hl2); (try clear hk2); (try clear hk); omega) | omega))
  have a2 := T1 k2 hk2 (min F2 3) (by (first | ((try clear a2); (try clear a1); (try clear T2); (try clear T1); (try clear hm); (try clear hl2); (try clear hk2); (try clear h1); (try clear hk); omega) | omega)) l2 hl2 (by (first | ((try clear a2); (try clear a1); (try clear T2); (try clear T1); (try clear hm); (try clear hl2); (try clear hk2); (try clear h1); (try clear hk); omega) | omega))
  have a3 := T2 (min F 3 - 1) (by (first | ((try clear a3); (try clear a2); (try clear a1); (try clear T2); (try clear T1); (try clear hm); (try clear h2); (try clear hl2); (try clear hk2); (try clear hk); omega) | omega)) l hl (min F2 3 - 1) (by (first | ((try clear a3); (try clear a2); (try clear a1); (try clear T2); (try clear T1); (try clear hm); (try clear hl2); (try clear hk2); (try clear h1); (try clear hk); omega) | omega)) l2 hl2
  rw [show min F 3 - 1 + 1 = min F 3 by (first | ((try clear a3); (try clear a2); (try clear a1); (try clear T2); (try clear T1); (try clear hm); (try clear h2); (try clear hl2); (try clear hk2); (try clear hk); omega) | omega), show min F2 3 - 1 + 1 = min F2 3 by (first | ((try clear a3); (try clear a2); (try clear a1); (try clear T2); (try clear T1); (try clear hm); (try clear hl2); (try clear hk2); (try clear h1); (try clear hk); omega) | omega)] at a3
  have e : zps 3 (F + F2) m = zps 3 (min F 3 + min F2 3) (max l l2) := by
    rw [hm]
    unfold zps
    rw [show min (F + F2) 3 = min (min F 3 + min F2 3) 3 by (first | ((try clear a3); (try clear a2); (try clear a1); (try clear T2); (try clear T1); (try clear hm); (try clear hl2); (try clear hk2); (try clear hk); omega) | omega)]
  rw [e, zps_m k F l, zps_m k2 F2 l2]
  (first | ((try clear T2); (try clear T1); (try clear hm); (try clear h2); (try clear hl2); (try clear hk2); (try clear h1); (try clear hk); omega) | omega)
theorem zps_jL {F F2 : Nat} (h1 : 1 ≤ F) (h2 : 1 ≤ F2) : zps 0 (F + F2) 0 ≤ zps 0 F 0 + zps 0 F2 0 := by
  have T2 : ∀ F, F < 4 → ∀ F2, F2 < 4 → 1 ≤ F → 1 ≤ F2 → zps 0 (F + F2) 0 ≤ zps 0 F 0 + zps 0 F2 0 := by decide +kernel
  have a3 := T2 (min F 3) (by (first | ((try clear a3); (try clear T2); (try clear h2); omega) | omega)) (min F2 3) (by (first | ((try clear a3); (try clear T2); (try clear h1); omega) | omega)) (by (first | ((try clear a3); (try clear T2); (try clear h2); omega) | omega)) (by (first | ((try clear a3); (try clear T2); (try clear h1); omega) | omega))
  have e : zps 0 (F + F2) 0 = zps 0 (min F 3 + min F2 3) 0 := by
    unfold zps
    rw [show min (F + F2) 3 = min (min F 3 + min F2 3) 3 by (first | ((try clear a3); (try clear T2); omega) | omega)]
  rw [e, zps_m 0 F 0, zps_m 0 F2 0]
  exact a3
theorem zps_L {F : Nat} (h1 : 1 ≤ F) : zps 0 F 0 + 240 ≤ 413 + 148 * F := by
  have h := zps_ra (k := 0) (F := 1) (G := F) (l := 0) (by (first | ((try clear h); (try clear h1); omega) | omega)) (by (first | ((try clear h); (try clear h1); omega) | omega)) (by (first | ((try clear h); (try clear h1); omega) | omega)) h1
  have e : zps 0 1 0 = 321 := rfl
  omega
def zC (w : Rw) : Nat := 120 * (rN w + pV w)
def zA (w : Rw) (F : Nat) : Nat := 413 * rL w + 148 * F
def zR (l f h : Nat) : Prop := zT2 l ≤ f ∧ (zTh l ≤ f ∨ zTh l ≤ h)
def zLv (k l f h : Nat) : Prop := (k = 0 ∧ l = 0 ∧ 1 ≤ f) ∨ ((k = 1 ∨ k = 2) ∧ 1 ≤ l ∧ zR l f h) ∨ (k = 3 ∧ zR l f h)
def zFl (k : Nat) (w : Rw) (F : Nat) (q : Prop) : Prop := (k = 0 → rPl w → rSg w) ∧ (k = 1 ∨ k = 2 → rPl w → rI w = 1 ∧ ¬ rSg w) ∧ (k = 1 → rPl w → q → 3 ≤ F)
def ZN (w : Rw) (L : Nat) (V : Nat → Prop) (f h : Nat → Nat) (q : Prop) : Prop :=
  w = .leaf ∨ (¬ rPl w ∧ ∃ e : Nat, e < L ∧ V e ∧ 1 ≤ f e ∧ (zC w + 53 ≤ 413 * rL w ∨ (zC w + 39 ≤ 413 * rL w ∧ 40 ≤ f e))) ∨
  (∃ k l e : Nat, e < L ∧ V e ∧ 1 ≤ f 0 ∧ k < 4 ∧ l < 5 ∧ zLv k l (f e) (h e) ∧ zps k (f 0) l + zC w ≤ zA w (f 0) ∧ zFl k w (f 0) q) ∨
  (∃ n e : Nat, 1 ≤ n ∧ e < L ∧ V e ∧ (∀ e2 : Nat, e2 ≤ e → n ≤ f e2) ∧ n + 55 ≤ f e ∧ zC w ≤ zA w (f 0) + 120 * n)
theorem ZN_3 {w : Rw} {L l e : Nat} {V : Nat → Prop} {f h : Nat → Nat} {q : Prop} (he : e < L) (hV : V e) (h0 : 1 ≤ f 0) (hl : l < 5) (hq : zR l (f e) (h e)) (hn : zps 3 (f 0) l + zC w ≤ zA w (f 0)) : ZN w L V f h q :=
  Or.inr (Or.inr (Or.inl ⟨3, l, e, he, hV, h0, by (first | ((try clear hn); (try clear he); omega) | omega), hl, Or.inr (Or.inr ⟨rfl, hq⟩), hn, fun h => by (first | ((try clear hn); (try clear he); omega) | omega), fun h => by (first | ((try clear hn); (try clear he); omega) | omega), fun h => by (first | ((try clear hn); (try clear he); omega) | omega)⟩))
theorem ZN_0 {w : Rw} {L e : Nat} {V : Nat → Prop} {f h : Nat → Nat} {q : Prop} (he : e < L) (hV : V e) (h0 : 1 ≤ f 0) (hq : 1 ≤ f e) (hfl : rPl w → rSg w) (hn : zps 0 (f 0) 0 + zC w ≤ zA w (f 0)) : ZN w L V f h q :=
  Or.inr (Or.inr (Or.inl ⟨0, 0, e, he, hV, h0, by (first | ((try clear hn); (try clear hq); (try clear he); omega) | omega), by (first | ((try clear hn); (try clear hq); (try clear he); omega) | omega), Or.inl ⟨rfl, rfl, hq⟩, hn, fun _ => hfl, fun h => by (first | ((try clear hn); (try clear hq); (try clear he); omega) | omega), fun h => by (first | ((try clear hn); (try clear hq); (try clear he); omega) | omega)⟩))
theorem zR_up {l f g h : Nat} (hf : f ≤ g) (hq : zR l f h) : zR l g h := ⟨Nat.le_trans hq.1 hf, hq.2.imp (fun a => Nat.le_trans a hf) (fun a => a)⟩
theorem zLv_up {k l f g h : Nat} (hf : f ≤ g) (hq : zLv k l f h) : zLv k l g h := by
  rcases hq with ⟨a, b, c⟩ | ⟨a, b, c⟩ | ⟨a, b⟩
  · exact Or.inl ⟨a, b, by (first | ((try clear b); omega) | omega)⟩
  · exact Or.inr (Or.inl ⟨a, b, zR_up hf c⟩)
  · exact Or.inr (Or.inr ⟨a, zR_up hf b⟩)
theorem zLv_R {k l f h : Nat} (hk : k ≠ 0) (hq : zLv k l f h) : zR l f h := by
  rcases hq with ⟨a, b, c⟩ | ⟨a, b, c⟩ | ⟨a, b⟩
  · exact absurd a hk
  · exact c
  · exact b
theorem zLv_0 {l f h : Nat} (hq : zLv 0 l f h) : l = 0 ∧ 1 ≤ f := by
  rcases hq with ⟨a, b, c⟩ | ⟨a, b, c⟩ | ⟨a, b⟩
  · exact ⟨b, c⟩
  · omega
  · (first | ((try clear b); omega) | omega)
/-- more tokens: it goes on -/
theorem ZN_up {w : Rw} {L : Nat} {V : Nat → Prop} {f g h : Nat → Nat} {q : Prop} (hL : 1 ≤ L) (hf : ∀ e : Nat, e < L → f e ≤ g e) (hn : ZN w L V f h q) : ZN w L V g h q := by
  have hf0 := hf 0 hL
  rcases hn with e0 | ⟨a0, e, a1, a2, a3, a4⟩ | ⟨k, l, e, a1, a2, a3, a4, a5, a6, a7, a8, a9, a10⟩ | ⟨n, e, a1, a2, a3, a4, a5, a6⟩
  · exact Or.inl e0
  · have := hf e a1
    exact Or.inr (Or.inl ⟨a0, e, a1, a2, by (first | ((try clear hf0); (try clear hf); (try clear hL); omega) | omega), a4.imp (fun a => a) (fun a => ⟨a.1, by (first | ((try clear hf0); (try clear hf); (try clear hL); omega) | omega)⟩)⟩)
  · have hr := zps_ra a4 a5 a3 hf0
    unfold zA at a7
    refine Or.inr (Or.inr (Or.inl ⟨k, l, e, a1, a2, by (first | ((try clear hf); (try clear hL); omega) | omega), a4, a5, zLv_up (hf e a1) a6, ?_, a8, a9, fun h1 h2 h3 => by have := a10 h1 h2 h3; (first | ((try clear h3); (try clear h2); (try clear h1); (try clear hf); (try clear hL); omega) | omega)⟩))
    unfold zA
    (first | ((try clear hf); (try clear hL); omega) | omega)
  · have := hf e a2
    unfold zA at a6
    refine Or.inr (Or.inr (Or.inr ⟨n, e, a1, a2, a3, fun e2 h2 => Nat.le_trans (a4 e2 h2) (hf e2 (by (first | ((try clear hf0); (try clear hf); (try clear hL); omega) | omega))), by (first | ((try clear h2); (try clear e2); (try clear hf0); (try clear hf); (try clear hL); omega) | omega), ?_⟩))
    unfold zA
    (first | ((try clear hf); (try clear hL); omega) | omega)
/-- an item and the row behind it -/
theorem ZN_jn {z k : Nat} {v : Int} {l r : Rw} {L : Nat} {V : Nat → Prop} {f1 f2 h : Nat → Nat} {q : Prop} (hL : 1 ≤ L) (hp1 : k ≠ 3 → ∀ e : Nat, e < L → 1 ≤ f1 e) (hp2 : rPl r → ∀ e : Nat, e < L → 1 ≤ f2 e) (hi : ZN (.inner z k v l .leaf) L V f1 h q) (hr : ZN r L V f2 h q) : ZN (.inner z k v l r) L V (fun e => f1 e + f2 e) h q := by
  have hC : zC (.inner z k v l r) = zC (.inner z k v l .leaf) + zC r := by
    unfold zC
    have e1 : rN (Std.DTreeMap.Internal.Impl.inner z k v l r : Rw) = rN (Std.DTreeMap.Internal.Impl.inner z k v l .leaf : Rw) + rN r := by
      rw [rN_in, rN_in]
      have : rN (Std.DTreeMap.Internal.Impl.leaf : Rw) = 0 := rfl
      (first | ((try clear e1); (try clear hC); (try clear hp2); (try clear hp1); (try clear hL); omega) | omega)
    have e2 : pV (Std.DTreeMap.Internal.Impl.inner z k v l r : Rw) = pV (Std.DTreeMap.Internal.Impl.inner z k v l .leaf : Rw) + pV r := by
      have e3 : ∀ x : Rw, pV (Std.DTreeMap.Internal.Impl.inner z k v l x : Rw) = (if k < 3 then 1 else if k = 3 then 0 else pV l) + pV x := fun _ => rfl
      have : pV (Std.DTreeMap.Internal.Impl.leaf : Rw) = 0 := rfl
      rw [e3, e3]
      (first | ((try clear e3); (try clear e2); (try clear e1); (try clear hC); (try clear hp2); (try clear hp1); (try clear hL); omega) | omega)
    (first | ((try clear e3); (try clear hC); (try clear hp2); (try clear hp1); (try clear hL); omega) | omega)
  have hG : rL (Std.DTreeMap.Internal.Impl.inner z k v l r : Rw) = rL (Std.DTreeMap.Internal.Impl.inner z k v l .leaf : Rw) + rL r := by
    have e3 : ∀ x : Rw, rL (Std.DTreeMap.Internal.Impl.inner z k v l x : Rw) = (if k < 3 then 1 else 0) + rL l + rL x := fun _ => rfl
    have : rL (Std.DTreeMap.Internal.Impl.leaf : Rw) = 0 := rfl
    rw [e3, e3]
    (first | ((try clear e3); (try clear hG); (try clear hC); (try clear hp2); (try clear hp1); (try clear hL); omega) | omega)
  have hPy : rPl (Std.DTreeMap.Internal.Impl.inner z k v l r : Rw) → k ≠ 3 ∨ rPl r := fun h => h
  have hPx : ¬ rPl (Std.DTreeMap.Internal.Impl.inner z k v l .leaf : Rw) → k = 3 := fun h => Classical.byContradiction fun h9 => h (Or.inl h9)
  rcases hr with rfl | ⟨b0, e2, b1, b2, b3, b4⟩ | ⟨k2, l2, e2, b1, b2, b3, b4, b5, b6, b7, b8, b9, b10⟩ | ⟨n2, e2, b1, b2, b3, b4, b5, b6⟩
  · exact ZN_up hL (fun e _ => Nat.le_add_right _ _) hi
  all_goals generalize hy : (Std.DTreeMap.Internal.Impl.inner z k v l r : Rw) = y at hC hG hPy ⊢
  all_goals generalize hx : (Std.DTreeMap.Internal.Impl.inner z k v l .leaf : Rw) = x at hC hG hPx hi
  · -- options of pages behind
    rcases hi with e0 | ⟨a0, e, a1, a2, a3, a4⟩ | ⟨k1, l1, e, a1, a2, a3, a4, a5, a6, a7, a8, a9, a10⟩ | ⟨n, e, a1, a2, a3, a4, a5, a6⟩
    · subst e0; cases hx
    · exact Or.inr (Or.inl ⟨fun h => (hPy h).elim (fun h => h (hPx a0)) b0, e, a1, a2, by show 1 ≤ f1 e + f2 e; (first | ((try clear hy); (try clear hPx); (try clear hPy); (try clear hG); (try clear hC); (try clear hp2); (try clear hp1); (try clear hL); omega) | omega), Or.inl (by (first | ((try clear hy); (try clear hPx); (try clear hPy); (try clear hp2); (try clear hp1); (try clear hL); omega) | omega))⟩)
    · unfold zA at a7
      obtain ⟨o1, o2⟩ := zps_o (l := l1) a4 a5 a3
      rcases b4 with b4 | ⟨b4, b5⟩
      · by_cases hk1 : k1 = 0
        · subst hk1
          obtain ⟨rfl, a6⟩ := zLv_0 a6
          by_cases h3 : k = 3
          · refine ZN_0 a1 a2 (by show 1 ≤ f1 0 + f2 0; (first | ((try clear h3); (try clear a6); (try clear hk1); (try clear o2); (try clear o1); (try clear hy); (try clear hPx); (try clear hPy); (try clear hG); (try clear hC); (try clear hp2); (try clear hp1); (try clear hL); omega) | omega)) (by show 1 ≤ f1 e + f2 e; (first | ((try clear h3); (try clear a6); (try clear hk1); (try clear o2); (try clear o1); (try clear hy); (try clear hPx); (try clear hPy); (try clear hG); (try clear hC); (try clear hp2); (try clear hp1); (try clear hL); omega) | omega)) (fun h => absurd (hPy h) (fun h => h.elim (fun h => h h3) b0)) ?_
            have hr := zps_ra (l := 0) a4 a5 a3 (Nat.le_add_right (f1 0) (f2 0))
            unfold zA
            show zps 0 (f1 0 + f2 0) 0 + zC y ≤ 413 * rL y + 148 * (f1 0 + f2 0)
            (first | ((try clear h3); (try clear a6); (try clear hk1); (try clear o2); (try clear o1); (try clear hy); (try clear hPx); (try clear hPy); (try clear hp2); (try clear hp1); (try clear hL); omega) | omega)
          · have := hp1 h3 e2 b1
            refine ZN_3 (l := 0) b1 b2 (by show 1 ≤ f1 0 + f2 0; (first | ((try clear h3); (try clear a6); (try clear hk1); (try clear o2); (try clear o1); (try clear hy); (try clear hPx); (try clear hPy); (try clear hG); (try clear hC); (try clear hp2); (try clear hp1); (try clear hL); omega) | omega)) (by (first | ((try clear h3); (try clear a6); (try clear hk1); (try clear o2); (try clear o1); (try clear hy); (try clear hPx); (try clear hPy); (try clear hG); (try clear hC); (try clear hp2); (try clear hp1); (try clear hL); omega) | omega)) ⟨by show 2 ≤ f1 e2 + f2 e2; (first | ((try clear h3); (try clear a6); (try clear hk1); (try clear o2); (try clear o1); (try clear hy); (try clear hPx); (try clear hPy); (try clear hG); (try clear hC); (try clear hp2); (try clear hp1); (try clear hL); omega) | omega), Or.inl (by show 2 ≤ f1 e2 + f2 e2; (first | ((try clear h3); (try clear a6); (try clear hk1); (try clear o2); (try clear o1); (try clear hy); (try clear hPx); (try clear hPy); (try clear hG); (try clear hC); (try clear hp2); (try clear hp1); (try clear hL); omega) | omega))⟩ ?_
            have hr := zps_ra (k := 3) (l := 0) (by (first | ((try clear h3); (try clear a6); (try clear hk1); (try clear o2); (try clear o1); (try clear hy); (try clear hPx); (try clear hPy); (try clear hG); (try clear hC); (try clear hp2); (try clear hp1); (try clear hL); omega) | omega)) (by (first | ((try clear h3); (try clear a6); (try clear hk1); (try clear o2); (try clear o1); (try clear hy); (try clear hPx); (try clear hPy); (try clear hG); (try clear hC); (try clear hp2); (try clear hp1); (try clear hL); omega) | omega)) a3 (Nat.le_add_right (f1 0) (f2 0))
            unfold zA
            show zps 3 (f1 0 + f2 0) 0 + zC y ≤ 413 * rL y + 148 * (f1 0 + f2 0)
            (first | ((try clear h3); (try clear a6); (try clear hk1); (try clear o2); (try clear hy); (try clear hPx); (try clear hPy); (try clear hp2); (try clear hp1); (try clear hL); omega) | omega)
        · refine ZN_3 (l := l1) a1 a2 (by show 1 ≤ f1 0 + f2 0; (first | ((try clear hk1); (try clear o2); (try clear o1); (try clear hy); (try clear hPx); (try clear hPy); (try clear hG); (try clear hC); (try clear hp2); (try clear hp1); (try clear hL); omega) | omega)) a5 (zR_up (Nat.le_add_right _ _) (zLv_R hk1 a6)) ?_
          have hr := zps_ra (k := 3) (l := l1) (by (first | ((try clear hk1); (try clear o2); (try clear o1); (try clear hy); (try clear hPx); (try clear hPy); (try clear hG); (try clear hC); (try clear hp2); (try clear hp1); (try clear hL); omega) | omega)) a5 a3 (Nat.le_add_right (f1 0) (f2 0))
          unfold zA
          show zps 3 (f1 0 + f2 0) l1 + zC y ≤ 413 * rL y + 148 * (f1 0 + f2 0)
          (first | ((try clear hk1); (try clear o2); (try clear hy); (try clear hPx); (try clear hPy); (try clear hp2); (try clear hp1); (try clear hL); omega) | omega)
      · refine ZN_3 (l := 4) b1 b2 (by show 1 ≤ f1 0 + f2 0; (first | ((try clear o2); (try clear o1); (try clear hy); (try clear hPx); (try clear hPy); (try clear hG); (try clear hC); (try clear hp2); (try clear hp1); (try clear hL); omega) | omega)) (by (first | ((try clear o2); (try clear o1); (try clear hy); (try clear hPx); (try clear hPy); (try clear hG); (try clear hC); (try clear hp2); (try clear hp1); (try clear hL); omega) | omega)) ⟨by show 28 ≤ f1 e2 + f2 e2; (first | ((try clear o2); (try clear o1); (try clear hy); (try clear hPx); (try clear hPy); (try clear hG); (try clear hC); (try clear hp2); (try clear hp1); (try clear hL); omega) | omega), Or.inl (by show 28 ≤ f1 e2 + f2 e2; (first | ((try clear o2); (try clear o1); (try clear hy); (try clear hPx); (try clear hPy); (try clear hG); (try clear hC); (try clear hp2); (try clear hp1); (try clear hL); omega) | omega))⟩ ?_
        have hr := zps_ra (k := 3) (l := 4) (by (first | ((try clear o2); (try clear o1); (try clear hy); (try clear hPx); (try clear hPy); (try clear hG); (try clear hC); (try clear hp2); (try clear hp1); (try clear hL); omega) | omega)) (by (first | ((try clear o2); (try clear o1); (try clear hy); (try clear hPx); (try clear hPy); (try clear hG); (try clear hC); (try clear hp2); (try clear hp1); (try clear hL); omega) | omega)) a3 (Nat.le_add_right (f1 0) (f2 0))
        unfold zA
        show zps 3 (f1 0 + f2 0) 4 + zC y ≤ 413 * rL y + 148 * (f1 0 + f2 0)
        (first | ((try clear o1); (try clear hy); (try clear hPx); (try clear hPy); (try clear hp2); (try clear hp1); (try clear hL); omega) | omega)
    · unfold zA at a6
      refine Or.inr (Or.inr (Or.inr ⟨n, e, a1, a2, a3, fun e2 h2 => Nat.le_trans (a4 e2 h2) (Nat.le_add_right _ _), by show n + 55 ≤ f1 e + f2 e; (first | ((try clear h2); (try clear hy); (try clear hPx); (try clear hPy); (try clear hG); (try clear hC); (try clear hp2); (try clear hp1); (try clear hL); omega) | omega), ?_⟩))
      unfold zA
      show zC y ≤ 413 * rL y + 148 * (f1 0 + f2 0) + 120 * n
      (first | ((try clear hy); (try clear hPx); (try clear hPy); (try clear hp2); (try clear hp1); (try clear hL); omega) | omega)
  · -- a row that comes to something behind
    unfold zA at b7
    rcases hi with e0 | ⟨a0, e, a1, a2, a3, a4⟩ | ⟨k1, l1, e, a1, a2, a3, a4, a5, a6, a7, a8, a9, a10⟩ | ⟨n, e, a1, a2, a3, a4, a5, a6⟩
    · subst e0; cases hx
    · have h3 := hPx a0
      obtain ⟨o1, o2⟩ := zps_o (l := l2) b4 b5 b3
      rcases a4 with a4 | ⟨a4, a5⟩
      · by_cases hk2 : k2 = 0
        · subst hk2
          obtain ⟨rfl, b6⟩ := zLv_0 b6
          by_cases hr9 : rPl r
          · have := hp2 hr9 e a1
            refine ZN_3 (l := 0) a1 a2 (by show 1 ≤ f1 0 + f2 0; (first | ((try clear b6); (try clear hk2); (try clear o2); (try clear o1); (try clear h3); (try clear hy); (try clear hPx); (try clear hPy); (try clear hG); (try clear hC); (try clear hp2); (try clear hp1); (try clear hL); omega) | omega)) (by (first | ((try clear b6); (try clear hk2); (try clear o2); (try clear o1); (try clear h3); (try clear hy); (try clear hPx); (try clear hPy); (try clear hG); (try clear hC); (try clear hp2); (try clear hp1); (try clear hL); omega) | omega)) ⟨by show 2 ≤ f1 e + f2 e; (first | ((try clear b6); (try clear hk2); (try clear o2); (try clear o1); (try clear h3); (try clear hy); (try clear hPx); (try clear hPy); (try clear hG); (try clear hC); (try clear hp2); (try clear hp1); (try clear hL); omega) | omega), Or.inl (by show 2 ≤ f1 e + f2 e; (first | ((try clear b6); (try clear hk2); (try clear o2); (try clear o1); (try clear h3); (try clear hy); (try clear hPx); (try clear hPy); (try clear hG); (try clear hC); (try clear hp2); (try clear hp1); (try clear hL); omega) | omega))⟩ ?_
            have hr := zps_ra (k := 3) (l := 0) (by (first | ((try clear b6); (try clear hk2); (try clear o2); (try clear o1); (try clear h3); (try clear hy); (try clear hPx); (try clear hPy); (try clear hG); (try clear hC); (try clear hp2); (try clear hp1); (try clear hL); omega) | omega)) (by (first | ((try clear b6); (try clear hk2); (try clear o2); (try clear o1); (try clear h3); (try clear hy); (try clear hPx); (try clear hPy); (try clear hG); (try clear hC); (try clear hp2); (try clear hp1); (try clear hL); omega) | omega)) b3 (Nat.le_add_left (f2 0) (f1 0))
            unfold zA
            show zps 3 (f1 0 + f2 0) 0 + zC y ≤ 413 * rL y + 148 * (f1 0 + f2 0)
            (first | ((try clear b6); (try clear hk2); (try clear o2); (try clear h3); (try clear hy); (try clear hPx); (try clear hPy); (try clear hp2); (try clear hp1); (try clear hL); omega) | omega)
          · refine ZN_0 b1 b2 (by show 1 ≤ f1 0 + f2 0; (first | ((try clear b6); (try clear hk2); (try clear o2); (try clear o1); (try clear h3); (try clear hy); (try clear hPx); (try clear hPy); (try clear hG); (try clear hC); (try clear hp2); (try clear hp1); (try clear hL); omega) | omega)) (by show 1 ≤ f1 e2 + f2 e2; (first | ((try clear b6); (try clear hk2); (try clear o2); (try clear o1); (try clear h3); (try clear hy); (try clear hPx); (try clear hPy); (try clear hG); (try clear hC); (try clear hp2); (try clear hp1); (try clear hL); omega) | omega)) (fun h => absurd (hPy h) (fun h => h.elim (fun h => h h3) hr9)) ?_
            have hr := zps_ra (l := 0) b4 b5 b3 (Nat.le_add_left (f2 0) (f1 0))
            unfold zA
            show zps 0 (f1 0 + f2 0) 0 + zC y ≤ 413 * rL y + 148 * (f1 0 + f2 0)
            (first | ((try clear b6); (try clear hk2); (try clear o2); (try clear o1); (try clear h3); (try clear hy); (try clear hPx); (try clear hPy); (try clear hp2); (try clear hp1); (try clear hL); omega) | omega)
        · refine ZN_3 (l := l2) b1 b2 (by show 1 ≤ f1 0 + f2 0; (first | ((try clear hk2); (try clear o2); (try clear o1); (try clear h3); (try clear hy); (try clear hPx); (try clear hPy); (try clear hG); (try clear hC); (try clear hp2); (try clear hp1); (try clear hL); omega) | omega)) b5 (zR_up (Nat.le_add_left _ _) (zLv_R hk2 b6)) ?_
          have hr := zps_ra (k := 3) (l := l2) (by (first | ((try clear hk2); (try clear o2); (try clear o1); (try clear h3); (try clear hy); (try clear hPx); (try clear hPy); (try clear hG); (try clear hC); (try clear hp2); (try clear hp1); (try clear hL); omega) | omega)) b5 b3 (Nat.le_add_left (f2 0) (f1 0))
          unfold zA
          show zps 3 (f1 0 + f2 0) l2 + zC y ≤ 413 * rL y + 148 * (f1 0 + f2 0)
          (first | ((try clear hk2); (try clear o2); (try clear h3); (try clear hy); (try clear hPx); (try clear hPy); (try clear hp2); (try clear hp1); (try clear hL); omega) | omega)
      · refine ZN_3 (l := 4) a1 a2 (by show 1 ≤ f1 0 + f2 0; (first | ((try clear o2); (try clear o1); (try clear h3); (try clear hy); (try clear hPx); (try clear hPy); (try clear hG); (try clear hC); (try clear hp2); (try clear hp1); (try clear hL); omega) | omega)) (by (first | ((try clear o2); (try clear o1); (try clear h3); (try clear hy); (try clear hPx); (try clear hPy); (try clear hG); (try clear hC); (try clear hp2); (try clear hp1); (try clear hL); omega) | omega)) ⟨by show 28 ≤ f1 e + f2 e; (first | ((try clear o2); (try clear o1); (try clear h3); (try clear hy); (try clear hPx); (try clear hPy); (try clear hG); (try clear hC); (try clear hp2); (try clear hp1); (try clear hL); omega) | omega), Or.inl (by show 28 ≤ f1 e + f2 e; (first | ((try clear o2); (try clear o1); (try clear h3); (try clear hy); (try clear hPx); (try clear hPy); (try clear hG); (try clear hC); (try clear hp2); (try clear hp1); (try clear hL); omega) | omega))⟩ ?_
        have hr := zps_ra (k := 3) (l := 4) (by (first | ((try clear o2); (try clear o1); (try clear h3); (try clear hy); (try clear hPx); (try clear hPy); (try clear hG); (try clear hC); (try clear hp2); (try clear hp1); (try clear hL); omega) | omega)) (by (first | ((try clear o2); (try clear o1); (try clear h3); (try clear hy); (try clear hPx); (try clear hPy); (try clear hG); (try clear hC); (try clear hp2); (try clear hp1); (try clear hL); omega) | omega)) b3 (Nat.le_add_left (f2 0) (f1 0))
        unfold zA
        show zps 3 (f1 0 + f2 0) 4 + zC y ≤ 413 * rL y + 148 * (f1 0 + f2 0)
        (first | ((try clear o1); (try clear h3); (try clear hy); (try clear hPx); (try clear hPy); (try clear hp2); (try clear hp1); (try clear hL); omega) | omega)
    · unfold zA at a7
      by_cases hk1 : k1 = 0
      · subst hk1
        obtain ⟨rfl, a6⟩ := zLv_0 a6
        have hj := zps_j (m := l2) a4 a5 a3 b4 b5 b3 (by (first | ((try clear hj); (try clear a6); (try clear hk1); (try clear hy); (try clear hPx); (try clear hPy); (try clear hG); (try clear hC); (try clear hp2); (try clear hp1); (try clear hL); omega) | omega))
        by_cases hk2 : k2 = 0
        · subst hk2
          obtain ⟨rfl, b6⟩ := zLv_0 b6
          by_cases h3 : k = 3
          · by_cases hr9 : rPl r
            · have := hp2 hr9 e a1
              refine ZN_3 (l := 0) a1 a2 (by show 1 ≤ f1 0 + f2 0; (first | ((try clear h3); (try clear b6); (try clear hk2); (try clear hj); (try clear a6); (try clear hk1); (try clear hy); (try clear hPx); (try clear hPy); (try clear hG); (try clear hC); (try clear hp2); (try clear hp1); (try clear hL); omega) | omega)) (by (first | ((try clear h3); (try clear b6); (try clear hk2); (try clear hj); (try clear a6); (try clear hk1); (try clear hy); (try clear hPx); (try clear hPy); (try clear hG); (try clear hC); (try clear hp2); (try clear hp1); (try clear hL); omega) | omega)) ⟨by show 2 ≤ f1 e + f2 e; (first | ((try clear h3); (try clear b6); (try clear hk2); (try clear hj); (try clear a6); (try clear hk1); (try clear hy); (try clear hPx); (try clear hPy); (try clear hG); (try clear hC); (try clear hp2); (try clear hp1); (try clear hL); omega) | omega), Or.inl (by show 2 ≤ f1 e + f2 e; (first | ((try clear h3); (try clear b6); (try clear hk2); (try clear hj); (try clear a6); (try clear hk1); (try clear hy); (try clear hPx); (try clear hPy); (try clear hG); (try clear hC); (try clear hp2); (try clear hp1); (try clear hL); omega) | omega))⟩ ?_
              unfold zA
              show zps 3 (f1 0 + f2 0) 0 + zC y ≤ 413 * rL y + 148 * (f1 0 + f2 0)
              (first | ((try clear h3); (try clear b6); (try clear hk2); (try clear a6); (try clear hk1); (try clear hy); (try clear hPx); (try clear hPy); (try clear hp2); (try clear hp1); (try clear hL); omega) | omega)
            · refine ZN_0 b1 b2 (by show 1 ≤ f1 0 + f2 0; (first | ((try clear h3); (try clear b6); (try clear hk2); (try clear hj); (try clear a6); (try clear hk1); (try clear hy); (try clear hPx); (try clear hPy); (try clear hG); (try clear hC); (try clear hp2); (try clear hp1); (try clear hL); omega) | omega)) (by show 1 ≤ f1 e2 + f2 e2; (first | ((try clear h3); (try clear b6); (try clear hk2); (try clear hj); (try clear a6); (try clear hk1); (try clear hy); (try clear hPx); (try clear hPy); (try clear hG); (try clear hC); (try clear hp2); (try clear hp1); (try clear hL); omega) | omega)) (fun h => absurd (hPy h) (fun h => h.elim (fun h => h h3) hr9)) ?_
              have hj := zps_jL a3 b3
              unfold zA
              show zps 0 (f1 0 + f2 0) 0 + zC y ≤ 413 * rL y + 148 * (f1 0 + f2 0)
              (first | ((try clear h3); (try clear b6); (try clear hk2); (try clear a6); (try clear hk1); (try clear hy); (try clear hPx); (try clear hPy); (try clear hp2); (try clear hp1); (try clear hL); omega) | omega)
          · have := hp1 h3 e2 b1
            refine ZN_3 (l := 0) b1 b2 (by show 1 ≤ f1 0 + f2 0; (first | ((try clear h3); (try clear b6); (try clear hk2); (try clear hj); (try clear a6); (try clear hk1); (try clear hy); (try clear hPx); (try clear hPy); (try clear hG); (try clear hC); (try clear hp2); (try clear hp1); (try clear hL); omega) | omega)) (by (first | ((try clear h3); (try clear b6); (try clear hk2); (try clear hj); (try clear a6); (try clear hk1); (try clear hy); (try clear hPx); (try clear hPy); (try clear hG); (try clear hC); (try clear hp2); (try clear hp1); (try clear hL); omega) | omega)) ⟨by show 2 ≤ f1 e2 + f2 e2; (first | ((try clear h3); (try clear b6); (try clear hk2); (try clear hj); (try clear a6); (try clear hk1); (try clear hy); (try clear hPx); (try clear hPy); (try clear hG); (try clear hC); (try clear hp2); (try clear hp1); (try clear hL); omega) | omega), Or.inl (by show 2 ≤ f1 e2 + f2 e2; (first | ((try clear h3); (try clear b6); (try clear hk2); (try clear hj); (try clear a6); (try clear hk1); (try clear hy); (try clear hPx); (try clear hPy); (try clear hG); (try clear hC); (try clear hp2); (try clear hp1); (try clear hL); omega) | omega))⟩ ?_
            unfold zA
            show zps 3 (f1 0 + f2 0) 0 + zC y ≤ 413 * rL y + 148 * (f1 0 + f2 0)
            (first | ((try clear h3); (try clear b6); (try clear hk2); (try clear a6); (try clear hk1); (try clear hy); (try clear hPx); (try clear hPy); (try clear hp2); (try clear hp1); (try clear hL); omega) | omega)
        · refine ZN_3 (l := l2) b1 b2 (by show 1 ≤ f1 0 + f2 0; (first | ((try clear hk2); (try clear hj); (try clear a6); (try clear hk1); (try clear hy); (try clear hPx); (try clear hPy); (try clear hG); (try clear hC); (try clear hp2); (try clear hp1); (try clear hL); omega) | omega)) b5 (zR_up (Nat.le_add_left _ _) (zLv_R hk2 b6)) ?_
          unfold zA
          show zps 3 (f1 0 + f2 0) l2 + zC y ≤ 413 * rL y + 148 * (f1 0 + f2 0)
          (first | ((try clear hk2); (try clear a6); (try clear hk1); (try clear hy); (try clear hPx); (try clear hPy); (try clear hp2); (try clear hp1); (try clear hL); omega) | omega)
      · by_cases hk2 : k2 = 0
        · subst hk2
          obtain ⟨rfl, b6⟩ := zLv_0 b6
          have hj := zps_j (m := l1) a4 a5 a3 b4 b5 b3 (by (first | ((try clear hj); (try clear b6); (try clear hk2); (try clear hk1); (try clear hy); (try clear hPx); (try clear hPy); (try clear hG); (try clear hC); (try clear hp2); (try clear hp1); (try clear hL); omega) | omega))
          refine ZN_3 (l := l1) a1 a2 (by show 1 ≤ f1 0 + f2 0; (first | ((try clear hj); (try clear b6); (try clear hk2); (try clear hk1); (try clear hy); (try clear hPx); (try clear hPy); (try clear hG); (try clear hC); (try clear hp2); (try clear hp1); (try clear hL); omega) | omega)) a5 (zR_up (Nat.le_add_right _ _) (zLv_R hk1 a6)) ?_
          unfold zA
          show zps 3 (f1 0 + f2 0) l1 + zC y ≤ 413 * rL y + 148 * (f1 0 + f2 0)
          (first | ((try clear b6); (try clear hk2); (try clear hk1); (try clear hy); (try clear hPx); (try clear hPy); (try clear hp2); (try clear hp1); (try clear hL); omega) | omega)
        · by_cases hl : l1 ≤ l2
          · have hj := zps_j (m := l2) a4 a5 a3 b4 b5 b3 (by (first | ((try clear hj); (try clear hk2); (try clear hk1); (try clear hy); (try clear hPx); (try clear hPy); (try clear hG); (try clear hC); (try clear hp2); (try clear hp1); (try clear hL); omega) | omega))
            refine ZN_3 (l := l2) b1 b2 (by show 1 ≤ f1 0 + f2 0; (first | ((try clear hj); (try clear hk2); (try clear hk1); (try clear hy); (try clear hPx); (try clear hPy); (try clear hG); (try clear hC); (try clear hp2); (try clear hp1); (try clear hL); omega) | omega)) b5 (zR_up (Nat.le_add_left _ _) (zLv_R hk2 b6)) ?_
            unfold zA
            show zps 3 (f1 0 + f2 0) l2 + zC y ≤ 413 * rL y + 148 * (f1 0 + f2 0)
            (first | ((try clear hk2); (try clear hk1); (try clear hy); (try clear hPx); (try clear hPy); (try clear hp2); (try clear hp1); (try clear hL); omega) | omega)
          · have hj := zps_j (m := l1) a4 a5 a3 b4 b5 b3 (by (first | ((try clear hj); (try clear hk2); (try clear hk1); (try clear hy); (try clear hPx); (try clear hPy); (try clear hG); (try clear hC); (try clear hp2); (try clear hp1); (try clear hL); omega) | omega))
            refine ZN_3 (l := l1) a1 a2 (by show 1 ≤ f1 0 + f2 0; (first | ((try clear hj); (try clear hk2); (try clear hk1); (try clear hy); (try clear hPx); (try clear hPy); (try clear hG); (try clear hC); (try clear hp2); (try clear hp1); (try clear hL); omega) | omega)) a5 (zR_up (Nat.le_add_right _ _) (zLv_R hk1 a6)) ?_
            unfold zA
            show zps 3 (f1 0 + f2 0) l1 + zC y ≤ 413 * rL y + 148 * (f1 0 + f2 0)
            (first | ((try clear hk2); (try clear hk1); (try clear hy); (try clear hPx); (try clear hPy); (try clear hp2); (try clear hp1); (try clear hL); omega) | omega)
    · unfold zA at a6
      refine Or.inr (Or.inr (Or.inr ⟨n, e, a1, a2, a3, fun e2 h2 => Nat.le_trans (a4 e2 h2) (Nat.le_add_right _ _), by show n + 55 ≤ f1 e + f2 e; (first | ((try clear h2); (try clear hy); (try clear hPx); (try clear hPy); (try clear hG); (try clear hC); (try clear hp2); (try clear hp1); (try clear hL); omega) | omega), ?_⟩))
      unfold zA
      show zC y ≤ 413 * rL y + 148 * (f1 0 + f2 0) + 120 * n
      (first | ((try clear hy); (try clear hPx); (try clear hPy); (try clear hp2); (try clear hp1); (try clear hL); omega) | omega)
  · unfold zA at b6
    rcases hi with e0 | ⟨a0, e, a1, a2, a3, a4⟩ | ⟨k1, l1, e, a1, a2, a3, a4, a5, a6, a7, a8, a9, a10⟩ | ⟨n, e, a1, a2, a3, a4, a5, a6⟩
    · subst e0; cases hx
    · refine Or.inr (Or.inr (Or.inr ⟨n2, e2, b1, b2, b3, fun e3 h3 => Nat.le_trans (b4 e3 h3) (Nat.le_add_left _ _), by show n2 + 55 ≤ f1 e2 + f2 e2; (first | ((try clear h3); (try clear e3); (try clear hy); (try clear hPx); (try clear hPy); (try clear hG); (try clear hC); (try clear hp2); (try clear hp1); (try clear hL); omega) | omega), ?_⟩))
      unfold zA
      show zC y ≤ 413 * rL y + 148 * (f1 0 + f2 0) + 120 * n2
      (first | ((try clear hy); (try clear hPx); (try clear hPy); (try clear hp2); (try clear hp1); (try clear hL); omega) | omega)
    · unfold zA at a7
      refine Or.inr (Or.inr (Or.inr ⟨n2, e2, b1, b2, b3, fun e3 h3 => Nat.le_trans (b4 e3 h3) (Nat.le_add_left _ _), by show n2 + 55 ≤ f1 e2 + f2 e2; (first | ((try clear h3); (try clear e3); (try clear hy); (try clear hPx); (try clear hPy); (try clear hG); (try clear hC); (try clear hp2); (try clear hp1); (try clear hL); omega) | omega), ?_⟩))
      unfold zA
      show zC y ≤ 413 * rL y + 148 * (f1 0 + f2 0) + 120 * n2
      (first | ((try clear hy); (try clear hPx); (try clear hPy); (try clear hp2); (try clear hp1); (try clear hL); omega) | omega)
    · unfold zA at a6
      by_cases hee : e ≤ e2
      · refine Or.inr (Or.inr (Or.inr ⟨n + n2, e, by (first | ((try clear hee); (try clear hy); (try clear hPx); (try clear hPy); (try clear hG); (try clear hC); (try clear hp2); (try clear hp1); (try clear hL); omega) | omega), a2, a3, fun e3 h3 => Nat.add_le_add (a4 e3 h3) (b4 e3 (by (first | ((try clear hy); (try clear hPx); (try clear hPy); (try clear hG); (try clear hC); (try clear hp2); (try clear hp1); (try clear hL); omega) | omega))), ?_, ?_⟩))
        · have := b4 e hee
          show n + n2 + 55 ≤ f1 e + f2 e
          (first | ((try clear hee); (try clear hy); (try clear hPx); (try clear hPy); (try clear hG); (try clear hC); (try clear hp2); (try clear hp1); (try clear hL); omega) | omega)
        · unfold zA
          show zC y ≤ 413 * rL y + 148 * (f1 0 + f2 0) + 120 * (n + n2)
          (first | ((try clear hee); (try clear hy); (try clear hPx); (try clear hPy); (try clear hp2); (try clear hp1); (try clear hL); omega) | omega)
      · refine Or.inr (Or.inr (Or.inr ⟨n + n2, e2, by (first | ((try clear hee); (try clear hy); (try clear hPx); (try clear hPy); (try clear hG); (try clear hC); (try clear hp2); (try clear hp1); (try clear hL); omega) | omega), b2, b3, fun e3 h3 => Nat.add_le_add (a4 e3 (by (first | ((try clear hy); (try clear hPx); (try clear hPy); (try clear hG); (try clear hC); (try clear hp2); (try clear hp1); (try clear hL); omega) | omega))) (b4 e3 h3), ?_, ?_⟩))
        · have := a4 e2 (by (first | ((try clear hy); (try clear hPx); (try clear hPy); (try clear hG); (try clear hC); (try clear hp2); (try clear hp1); (try clear hL); omega) | omega))
          show n + n2 + 55 ≤ f1 e2 + f2 e2
          (first | ((try clear hee); (try clear hy); (try clear hPx); (try clear hPy); (try clear hG); (try clear hC); (try clear hp2); (try clear hp1); (try clear hL); omega) | omega)
        · unfold zA
          show zC y ≤ 413 * rL y + 148 * (f1 0 + f2 0) + 120 * (n + n2)
          (first | ((try clear hee); (try clear hy); (try clear hPx); (try clear hPy); (try clear hp2); (try clear hp1); (try clear hL); omega) | omega)
/-- a repeat -/
theorem ZN_rp {z : Nat} {v : Int} {l : Rw} {L T : Nat} {V V2 : Nat → Prop} {f1 g1 g2 h : Nat → Nat} {q : Prop} (hL : 1 ≤ L) (hPl : rPl l) (h60 : ∀ e : Nat, e < L → f1 e ≤ 60) (hV : ∀ e : Nat, V2 e → V e) (hp : 1 ≤ pV l) (hs1 : ∀ e : Nat, e < L → pV l ≤ g1 e) (hs2 : ∀ e : Nat, e < L → pV l ≤ g2 e) (hq2 : rI l = 1 → ¬ rSg l → 2 ≤ g2 0) (d3 : ∀ e : Nat, e < L → e < T → g1 e + g2 e ≤ f1 e) (d4 : ∀ e : Nat, e < L → T ≤ e → g1 e = g2 e ∧ g1 e ≤ f1 e ∧ (V2 e → 2 * g1 e ≤ f1 e ∧ bH (f1 e) (h e))) (d5 : 1 ≤ T → ¬ rSg l) (d6 : q → 1 ≤ T ∨ 3 ≤ f1 0) (hn : ZN l L V2 g1 (hW T g1) (rI l = 1)) : ZN (.inner z 4 v l .leaf) L V f1 h q := by
  have hC : zC (.inner z 4 v l .leaf) = zC l + 120 := by
    unfold zC
    have e1 : rN (Std.DTreeMap.Internal.Impl.inner z 4 v l .leaf : Rw) = 1 + rN l + 0 := rfl
    have e2 : pV (Std.DTreeMap.Internal.Impl.inner z 4 v l .leaf : Rw) = pV l + 0 := rfl
    (first | ((try clear hC); (try clear hn); (try clear d6); (try clear d5); (try clear d4); (try clear d3); (try clear hq2); (try clear hs2); (try clear hs1); (try clear hp); (try clear h60); (try clear hL); omega) | omega)
  have hG : rL (Std.DTreeMap.Internal.Impl.inner z 4 v l .leaf : Rw) = rL l := by
    have e1 : rL (Std.DTreeMap.Internal.Impl.inner z 4 v l .leaf : Rw) = 0 + rL l + 0 := rfl
    (first | ((try clear hG); (try clear hC); (try clear hn); (try clear d6); (try clear d5); (try clear d4); (try clear d3); (try clear hq2); (try clear hs2); (try clear hs1); (try clear hp); (try clear h60); (try clear hL); omega) | omega)
  have hIy : rI (Std.DTreeMap.Internal.Impl.inner z 4 v l .leaf : Rw) = 1 := rfl
  have hSy : ¬ rSg (Std.DTreeMap.Internal.Impl.inner z 4 v l .leaf : Rw) := fun h => absurd (show 4 < 3 from h) (by (first | ((try clear hSy); (try clear hIy); (try clear hG); (try clear hC); (try clear hn); (try clear d6); (try clear d5); (try clear d4); (try clear d3); (try clear hq2); (try clear hs2); (try clear hs1); (try clear hp); (try clear h60); (try clear hL); omega) | omega))
  generalize (Std.DTreeMap.Internal.Impl.inner z 4 v l .leaf : Rw) = y at hC hG hIy hSy ⊢
  have hle : ∀ e : Nat, e < L → g1 e ≤ f1 e := fun e he => by
    by_cases hT : e < T
    · have := d3 e he hT; (first | ((try clear hT); (try clear he); (try clear hle); (try clear hSy); (try clear hIy); (try clear hG); (try clear hC); (try clear hn); (try clear d6); (try clear d5); (try clear d4); (try clear d3); (try clear hq2); (try clear hs2); (try clear hs1); (try clear hp); (try clear h60); (try clear hL); omega) | omega)
    · exact (d4 e he (by (first | ((try clear he); (try clear hle); (try clear hSy); (try clear hIy); (try clear hG); (try clear hC); (try clear hn); (try clear d6); (try clear d5); (try clear d4); (try clear d3); (try clear hq2); (try clear hs2); (try clear hs1); (try clear hp); (try clear h60); (try clear hL); omega) | omega))).2.1
  have h00 := hle 0 hL
  have t0 : zTh 0 = 2 := rfl
  have t1 : zTh 1 = 3 := rfl
  have t2 : zTh 2 = 7 := rfl
  have t3 : zTh 3 = 14 := rfl
  have t4 : zTh 4 = 28 := rfl
  have u0 : zT2 0 = 2 := rfl
  have u1 : zT2 1 = 2 := rfl
  have u2 : zT2 2 = 6 := rfl
  have u3 : zT2 3 = 14 := rfl
  have u4 : zT2 4 = 28 := rfl
  rcases hn with e0 | ⟨a0, _⟩ | ⟨k, l9, e, a1, a2, a3, a4, a5, a6, a7, a8, a9, a10⟩ | ⟨n, e, a1, a2, a3, a4, a5, a6⟩
  · subst e0; exact hPl.elim
  · exact absurd hPl a0
  · unfold zA at a7
    by_cases hT : T = 0
    · subst hT
      obtain ⟨_, _, c3⟩ := d4 e a1 (Nat.zero_le _)
      obtain ⟨c1, c2⟩ := c3 a2
      rw [hW_ge (Nat.zero_le _)] at a6
      have hk1 : k = 1 → 3 ≤ g1 0 := fun hk => a10 hk hPl (a9 (Or.inl hk) hPl).1
      have hk0 : k = 0 → l9 = 0 ∧ 1 ≤ g1 e := fun hk => by subst hk; exact zLv_0 a6
      have hR : k ≠ 0 → zTh l9 ≤ g1 e := fun hk => (zLv_R hk a6).2.elim (fun a => a) (fun a => a)
      have hL9 : k = 0 ∨ k ≠ 0 := by (first | ((try clear hR); (try clear hk0); (try clear hk1); (try clear c2); (try clear c1); (try clear c3); (try clear hT); (try clear u4); (try clear u3); (try clear u2); (try clear u1); (try clear u0); (try clear t4); (try clear t3); (try clear t2); (try clear t1); (try clear t0); (try clear h00); (try clear hle); (try clear hSy); (try clear hIy); (try clear hG); (try clear hC); (try clear hn); (try clear d6); (try clear d5); (try clear d4); (try clear d3); (try clear hq2); (try clear hs2); (try clear hs1); (try clear hp); (try clear h60); (try clear hL); omega) | omega)
      by_cases h4 : l9 = 4
      · have hk : k ≠ 0 := fun hk => by have := (hk0 hk).1; (first | ((try clear hk); (try clear hR); (try clear hk0); (try clear hk1); (try clear c2); (try clear c1); (try clear c3); (try clear hT); (try clear u4); (try clear u3); (try clear u2); (try clear u1); (try clear u0); (try clear t4); (try clear t3); (try clear t2); (try clear t1); (try clear t0); (try clear h00); (try clear hle); (try clear hSy); (try clear hIy); (try clear hG); (try clear hC); (try clear hn); (try clear d6); (try clear d5); (try clear d4); (try clear d3); (try clear hq2); (try clear hs2); (try clear hs1); (try clear hp); (try clear h60); (try clear hL); omega) | omega)
        have hR := hR hk
        rw [h4, t4] at hR
        refine Or.inr (Or.inr (Or.inr ⟨1, e, Nat.le_refl _, a1, hV e a2, fun e2 h2 => ?_, by (first | ((try clear h2); (try clear e2); (try clear hk); (try clear h4); (try clear hk0); (try clear hk1); (try clear c2); (try clear c3); (try clear hT); (try clear u4); (try clear u3); (try clear u2); (try clear u1); (try clear u0); (try clear t4); (try clear t3); (try clear t2); (try clear t1); (try clear t0); (try clear h00); (try clear hle); (try clear hSy); (try clear hIy); (try clear hG); (try clear hC); (try clear hn); (try clear d6); (try clear d5); (try clear d4); (try clear d3); (try clear hq2); (try clear hs2); (try clear hs1); (try clear hp); (try clear h60); (try clear hL); omega) | omega), ?_⟩))
        · have := hs1 e2 (by (first | ((try clear hR); (try clear hk); (try clear h4); (try clear hk0); (try clear hk1); (try clear c2); (try clear c1); (try clear c3); (try clear hT); (try clear u4); (try clear u3); (try clear u2); (try clear u1); (try clear u0); (try clear t4); (try clear t3); (try clear t2); (try clear t1); (try clear t0); (try clear h00); (try clear hle); (try clear hSy); (try clear hIy); (try clear hG); (try clear hC); (try clear hn); (try clear d6); (try clear d5); (try clear d4); (try clear d3); (try clear hq2); (try clear hs2); (try clear hs1); (try clear hp); (try clear h60); (try clear hL); omega) | omega))
          have := hle e2 (by (first | ((try clear hR); (try clear hk); (try clear h4); (try clear hk0); (try clear hk1); (try clear c2); (try clear c1); (try clear c3); (try clear hT); (try clear u4); (try clear u3); (try clear u2); (try clear u1); (try clear u0); (try clear t4); (try clear t3); (try clear t2); (try clear t1); (try clear t0); (try clear h00); (try clear hle); (try clear hSy); (try clear hIy); (try clear hG); (try clear hC); (try clear hn); (try clear d6); (try clear d5); (try clear d4); (try clear d3); (try clear hq2); (try clear hs2); (try clear hs1); (try clear hp); (try clear h60); (try clear hL); omega) | omega))
          (first | ((try clear h2); (try clear hR); (try clear hk); (try clear h4); (try clear hk0); (try clear hk1); (try clear c2); (try clear c1); (try clear c3); (try clear hT); (try clear u4); (try clear u3); (try clear u2); (try clear u1); (try clear u0); (try clear t4); (try clear t3); (try clear t2); (try clear t1); (try clear t0); (try clear h00); (try clear hle); (try clear hSy); (try clear hIy); (try clear hG); (try clear hC); (try clear hn); (try clear d6); (try clear d5); (try clear d4); (try clear d3); (try clear hq2); (try clear hs2); (try clear hs1); (try clear h60); (try clear hL); omega) | omega)
        · unfold zA
          (first | ((try clear h2); (try clear e2); (try clear hR); (try clear hk); (try clear h4); (try clear hk0); (try clear hk1); (try clear c2); (try clear c1); (try clear c3); (try clear hT); (try clear u4); (try clear u3); (try clear u2); (try clear u1); (try clear u0); (try clear t4); (try clear t3); (try clear t2); (try clear t1); (try clear t0); (try clear hle); (try clear hSy); (try clear hIy); (try clear hn); (try clear d6); (try clear d5); (try clear d4); (try clear d3); (try clear hq2); (try clear hs2); (try clear hs1); (try clear hp); (try clear h60); (try clear hL); omega) | omega)
      · have hev := zps_ev (l := l9) a4 (by (first | ((try clear hev); (try clear hR); (try clear hk0); (try clear hk1); (try clear c2); (try clear c1); (try clear c3); (try clear hT); (try clear u4); (try clear u3); (try clear u2); (try clear u1); (try clear u0); (try clear t4); (try clear t3); (try clear t2); (try clear t1); (try clear t0); (try clear h00); (try clear hle); (try clear hSy); (try clear hIy); (try clear hG); (try clear hC); (try clear hn); (try clear d6); (try clear d5); (try clear d4); (try clear d3); (try clear hq2); (try clear hs2); (try clear hs1); (try clear hp); (try clear h60); (try clear hL); omega) | omega)) a3 hk1 (fun hk => (hk0 hk).1)
        have hra := zps_ra (k := 1) (l := l9 + 1) (by (first | ((try clear hra); (try clear hev); (try clear h4); (try clear hR); (try clear hk0); (try clear hk1); (try clear c2); (try clear c1); (try clear c3); (try clear hT); (try clear u4); (try clear u3); (try clear u2); (try clear u1); (try clear u0); (try clear t4); (try clear t3); (try clear t2); (try clear t1); (try clear t0); (try clear h00); (try clear hle); (try clear hSy); (try clear hIy); (try clear hG); (try clear hC); (try clear hn); (try clear d6); (try clear d5); (try clear d4); (try clear d3); (try clear hq2); (try clear hs2); (try clear hs1); (try clear hp); (try clear h60); (try clear hL); omega) | omega)) (by (first | ((try clear hra); (try clear hev); (try clear hR); (try clear hk0); (try clear hk1); (try clear c2); (try clear c1); (try clear c3); (try clear hT); (try clear u4); (try clear u3); (try clear u2); (try clear u1); (try clear u0); (try clear t4); (try clear t3); (try clear t2); (try clear t1); (try clear t0); (try clear h00); (try clear hle); (try clear hSy); (try clear hIy); (try clear hG); (try clear hC); (try clear hn); (try clear d6); (try clear d5); (try clear d4); (try clear d3); (try clear hq2); (try clear hs2); (try clear hs1); (try clear hp); (try clear h60); (try clear hL); omega) | omega)) a3 h00
        refine Or.inr (Or.inr (Or.inl ⟨1, l9 + 1, e, a1, hV e a2, by (first | ((try clear hra); (try clear hev); (try clear h4); (try clear hR); (try clear hk0); (try clear hk1); (try clear c2); (try clear c1); (try clear c3); (try clear hT); (try clear u4); (try clear u3); (try clear u2); (try clear u1); (try clear u0); (try clear t4); (try clear t3); (try clear t2); (try clear t1); (try clear t0); (try clear hle); (try clear hSy); (try clear hIy); (try clear hG); (try clear hC); (try clear hn); (try clear d6); (try clear d5); (try clear d4); (try clear d3); (try clear hq2); (try clear hs2); (try clear hs1); (try clear hp); (try clear h60); (try clear hL); omega) | omega), by (first | ((try clear hra); (try clear hev); (try clear h4); (try clear hR); (try clear hk0); (try clear hk1); (try clear c2); (try clear c1); (try clear c3); (try clear hT); (try clear u4); (try clear u3); (try clear u2); (try clear u1); (try clear u0); (try clear t4); (try clear t3); (try clear t2); (try clear t1); (try clear t0); (try clear h00); (try clear hle); (try clear hSy); (try clear hIy); (try clear hG); (try clear hC); (try clear hn); (try clear d6); (try clear d5); (try clear d4); (try clear d3); (try clear hq2); (try clear hs2); (try clear hs1); (try clear hp); (try clear h60); (try clear hL); omega) | omega), by (first | ((try clear hra); (try clear hev); (try clear hR); (try clear hk0); (try clear hk1); (try clear c2); (try clear c1); (try clear c3); (try clear hT); (try clear u4); (try clear u3); (try clear u2); (try clear u1); (try clear u0); (try clear t4); (try clear t3); (try clear t2); (try clear t1); (try clear t0); (try clear hle); (try clear hSy); (try clear hIy); (try clear hG); (try clear hC); (try clear hn); (try clear d6); (try clear d5); (try clear d4); (try clear d3); (try clear hq2); (try clear hs2); (try clear hs1); (try clear hp); (try clear h60); (try clear hL); omega) | omega), Or.inr (Or.inl ⟨Or.inl rfl, by (first | ((try clear hra); (try clear hev); (try clear h4); (try clear hR); (try clear hk0); (try clear hk1); (try clear c2); (try clear c1); (try clear c3); (try clear hT); (try clear u4); (try clear u3); (try clear u2); (try clear u1); (try clear u0); (try clear t4); (try clear t3); (try clear t2); (try clear t1); (try clear t0); (try clear h00); (try clear hle); (try clear hSy); (try clear hIy); (try clear hG); (try clear hC); (try clear hn); (try clear d6); (try clear d5); (try clear d4); (try clear d3); (try clear hq2); (try clear hs2); (try clear hs1); (try clear hp); (try clear h60); (try clear hL); omega) | omega), ?_⟩), ?_, fun h => by (first | ((try clear hra); (try clear hev); (try clear h4); (try clear hR); (try clear hk0); (try clear hk1); (try clear c2); (try clear c1); (try clear c3); (try clear hT); (try clear u4); (try clear u3); (try clear u2); (try clear u1); (try clear u0); (try clear t4); (try clear t3); (try clear t2); (try clear t1); (try clear t0); (try clear h00); (try clear hle); (try clear hSy); (try clear hIy); (try clear hG); (try clear hC); (try clear hn); (try clear d6); (try clear d5); (try clear d4); (try clear d3); (try clear hq2); (try clear hs2); (try clear hs1); (try clear hp); (try clear h60); (try clear hL); omega) | omega), fun _ _ => ⟨hIy, hSy⟩, fun _ _ hq => (d6 hq).resolve_left (by (first | ((try clear hq); (try clear hra); (try clear hev); (try clear h4); (try clear hR); (try clear hk0); (try clear hk1); (try clear c2); (try clear c1); (try clear c3); (try clear hT); (try clear u4); (try clear u3); (try clear u2); (try clear u1); (try clear u0); (try clear t4); (try clear t3); (try clear t2); (try clear t1); (try clear t0); (try clear h00); (try clear hle); (try clear hSy); (try clear hIy); (try clear hG); (try clear hC); (try clear hn); (try clear d6); (try clear d5); (try clear d4); (try clear d3); (try clear hq2); (try clear hs2); (try clear hs1); (try clear hp); (try clear h60); (try clear hL); omega) | omega))⟩))
        · unfold bH at c2
          have h5 : l9 = 0 ∨ l9 = 1 ∨ l9 = 2 ∨ l9 = 3 := by (first | ((try clear h5); (try clear hra); (try clear hev); (try clear hR); (try clear hk0); (try clear hk1); (try clear c2); (try clear c1); (try clear c3); (try clear hT); (try clear u4); (try clear u3); (try clear u2); (try clear u1); (try clear u0); (try clear t4); (try clear t3); (try clear t2); (try clear t1); (try clear t0); (try clear hle); (try clear hSy); (try clear hIy); (try clear hG); (try clear hC); (try clear hn); (try clear d6); (try clear d5); (try clear d4); (try clear d3); (try clear hq2); (try clear hs2); (try clear hs1); (try clear hp); (try clear h60); (try clear hL); omega) | omega)
          have h6 : k = 0 → l9 = 0 := fun hk => (hk0 hk).1
          have h7 : 1 ≤ g1 e := by
            rcases hL9 with hk | hk
            · exact (hk0 hk).2
            · have h8 := hR hk
              rcases h5 with h5 | h5 | h5 | h5 <;> rw [h5] at h8 <;> (first | ((try clear h7); (try clear h6); (try clear h5); (try clear hra); (try clear hev); (try clear h4); (try clear hR); (try clear hk0); (try clear hk1); (try clear c2); (try clear c1); (try clear c3); (try clear hT); (try clear u4); (try clear u3); (try clear u2); (try clear u1); (try clear u0); (try clear t4); (try clear h00); (try clear hle); (try clear hSy); (try clear hIy); (try clear hG); (try clear hC); (try clear hn); (try clear d6); (try clear d5); (try clear d4); (try clear d3); (try clear hq2); (try clear hs2); (try clear hs1); (try clear hp); (try clear h60); (try clear hL); omega) | omega)
          rcases h5 with rfl | rfl | rfl | rfl
          · exact ⟨by show 2 ≤ _; (first | ((try clear h6); (try clear h5); (try clear hra); (try clear hev); (try clear h4); (try clear hR); (try clear hk0); (try clear hk1); (try clear c2); (try clear c3); (try clear hT); (try clear u4); (try clear u3); (try clear u2); (try clear u1); (try clear u0); (try clear t4); (try clear t3); (try clear t2); (try clear t1); (try clear t0); (try clear h00); (try clear hle); (try clear hSy); (try clear hIy); (try clear hG); (try clear hC); (try clear hn); (try clear d6); (try clear d5); (try clear d4); (try clear d3); (try clear hq2); (try clear hs2); (try clear hs1); (try clear hp); (try clear h60); (try clear hL); omega) | omega), by
              show 3 ≤ _ ∨ 3 ≤ _
              (first | ((try clear h5); (try clear hra); (try clear hev); (try clear c3); (try clear hT); (try clear u4); (try clear u3); (try clear u2); (try clear u1); (try clear u0); (try clear t4); (try clear t3); (try clear t2); (try clear t1); (try clear hle); (try clear hSy); (try clear hIy); (try clear hG); (try clear hC); (try clear hn); (try clear d6); (try clear d5); (try clear d4); (try clear d3); (try clear hq2); (try clear hs2); (try clear hs1); (try clear hp); (try clear h60); (try clear hL); omega) | omega)⟩
          · have h8 := hR (fun hk => by have := h6 hk; (first | ((try clear hk); (try clear h8); (try clear h7); (try clear h6); (try clear h5); (try clear hra); (try clear hev); (try clear h4); (try clear hR); (try clear hk0); (try clear hk1); (try clear c2); (try clear c1); (try clear c3); (try clear hT); (try clear u4); (try clear u3); (try clear u2); (try clear u1); (try clear u0); (try clear t4); (try clear t3); (try clear t2); (try clear t1); (try clear t0); (try clear h00); (try clear hle); (try clear hSy); (try clear hIy); (try clear hG); (try clear hC); (try clear hn); (try clear d6); (try clear d5); (try clear d4); (try clear d3); (try clear hq2); (try clear hs2); (try clear hs1); (try clear hp); (try clear h60); (try clear hL); omega) | omega))
            exact ⟨by show 6 ≤ _; (first | ((try clear h7); (try clear h6); (try clear h5); (try clear hra); (try clear hev); (try clear h4); (try clear hR); (try clear hk0); (try clear hk1); (try clear c2); (try clear c3); (try clear hT); (try clear u4); (try clear u3); (try clear u2); (try clear u1); (try clear u0); (try clear t4); (try clear t3); (try clear t2); (try clear t0); (try clear h00); (try clear hle); (try clear hSy); (try clear hIy); (try clear hG); (try clear hC); (try clear hn); (try clear d6); (try clear d5); (try clear d4); (try clear d3); (try clear hq2); (try clear hs2); (try clear hs1); (try clear hp); (try clear h60); (try clear hL); omega) | omega), by
              show 7 ≤ _ ∨ 7 ≤ _
              (first | ((try clear h7); (try clear h5); (try clear hra); (try clear hev); (try clear c3); (try clear hT); (try clear u4); (try clear u3); (try clear u2); (try clear u1); (try clear u0); (try clear t4); (try clear t3); (try clear t2); (try clear t0); (try clear hle); (try clear hSy); (try clear hIy); (try clear hG); (try clear hC); (try clear hn); (try clear d6); (try clear d5); (try clear d4); (try clear d3); (try clear hq2); (try clear hs2); (try clear hs1); (try clear hp); (try clear h60); (try clear hL); omega) | omega)⟩
          · have h8 := hR (fun hk => by have := h6 hk; (first | ((try clear hk); (try clear h8); (try clear h7); (try clear h6); (try clear h5); (try clear hra); (try clear hev); (try clear h4); (try clear hR); (try clear hk0); (try clear hk1); (try clear c2); (try clear c1); (try clear c3); (try clear hT); (try clear u4); (try clear u3); (try clear u2); (try clear u1); (try clear u0); (try clear t4); (try clear t3); (try clear t2); (try clear t1); (try clear t0); (try clear h00); (try clear hle); (try clear hSy); (try clear hIy); (try clear hG); (try clear hC); (try clear hn); (try clear d6); (try clear d5); (try clear d4); (try clear d3); (try clear hq2); (try clear hs2); (try clear hs1); (try clear hp); (try clear h60); (try clear hL); omega) | omega))
            exact ⟨by show 14 ≤ _; (first | ((try clear h7); (try clear h6); (try clear h5); (try clear hra); (try clear hev); (try clear h4); (try clear hR); (try clear hk0); (try clear hk1); (try clear c2); (try clear c3); (try clear hT); (try clear u4); (try clear u3); (try clear u2); (try clear u1); (try clear u0); (try clear t4); (try clear t3); (try clear t1); (try clear t0); (try clear h00); (try clear hle); (try clear hSy); (try clear hIy); (try clear hG); (try clear hC); (try clear hn); (try clear d6); (try clear d5); (try clear d4); (try clear d3); (try clear hq2); (try clear hs2); (try clear hs1); (try clear hp); (try clear h60); (try clear hL); omega) | omega), Or.inl (by show 14 ≤ _; (first | ((try clear h7); (try clear h6); (try clear h5); (try clear hra); (try clear hev); (try clear h4); (try clear hR); (try clear hk0); (try clear hk1); (try clear c2); (try clear c3); (try clear hT); (try clear u4); (try clear u3); (try clear u2); (try clear u1); (try clear u0); (try clear t4); (try clear t3); (try clear t1); (try clear t0); (try clear h00); (try clear hle); (try clear hSy); (try clear hIy); (try clear hG); (try clear hC); (try clear hn); (try clear d6); (try clear d5); (try clear d4); (try clear d3); (try clear hq2); (try clear hs2); (try clear hs1); (try clear hp); (try clear h60); (try clear hL); omega) | omega))⟩
          · have h8 := hR (fun hk => by have := h6 hk; (first | ((try clear hk); (try clear h8); (try clear h7); (try clear h6); (try clear h5); (try clear hra); (try clear hev); (try clear h4); (try clear hR); (try clear hk0); (try clear hk1); (try clear c2); (try clear c1); (try clear c3); (try clear hT); (try clear u4); (try clear u3); (try clear u2); (try clear u1); (try clear u0); (try clear t4); (try clear t3); (try clear t2); (try clear t1); (try clear t0); (try clear h00); (try clear hle); (try clear hSy); (try clear hIy); (try clear hG); (try clear hC); (try clear hn); (try clear d6); (try clear d5); (try clear d4); (try clear d3); (try clear hq2); (try clear hs2); (try clear hs1); (try clear hp); (try clear h60); (try clear hL); omega) | omega))
            exact ⟨by show 28 ≤ _; (first | ((try clear h7); (try clear h6); (try clear h5); (try clear hra); (try clear hev); (try clear h4); (try clear hR); (try clear hk0); (try clear hk1); (try clear c2); (try clear c3); (try clear hT); (try clear u4); (try clear u3); (try clear u2); (try clear u1); (try clear u0); (try clear t4); (try clear t2); (try clear t1); (try clear t0); (try clear h00); (try clear hle); (try clear hSy); (try clear hIy); (try clear hG); (try clear hC); (try clear hn); (try clear d6); (try clear d5); (try clear d4); (try clear d3); (try clear hq2); (try clear hs2); (try clear hs1); (try clear hp); (try clear h60); (try clear hL); omega) | omega), Or.inl (by show 28 ≤ _; (first | ((try clear h7); (try clear h6); (try clear h5); (try clear hra); (try clear hev); (try clear h4); (try clear hR); (try clear hk0); (try clear hk1); (try clear c2); (try clear c3); (try clear hT); (try clear u4); (try clear u3); (try clear u2); (try clear u1); (try clear u0); (try clear t4); (try clear t2); (try clear t1); (try clear t0); (try clear h00); (try clear hle); (try clear hSy); (try clear hIy); (try clear hG); (try clear hC); (try clear hn); (try clear d6); (try clear d5); (try clear d4); (try clear d3); (try clear hq2); (try clear hs2); (try clear hs1); (try clear hp); (try clear h60); (try clear hL); omega) | omega))⟩
        · unfold zA
          (first | ((try clear h4); (try clear hR); (try clear hk0); (try clear hk1); (try clear c2); (try clear c1); (try clear c3); (try clear hT); (try clear u4); (try clear u3); (try clear u2); (try clear u1); (try clear u0); (try clear t4); (try clear t3); (try clear t2); (try clear t1); (try clear t0); (try clear hle); (try clear hSy); (try clear hIy); (try clear hn); (try clear d6); (try clear d5); (try clear d4); (try clear d3); (try clear hq2); (try clear hs2); (try clear hs1); (try clear hp); (try clear h60); (try clear hL); omega) | omega)
    · have hg := d3 0 hL (by (first | ((try clear hg); (try clear u4); (try clear u3); (try clear u2); (try clear u1); (try clear u0); (try clear t4); (try clear t3); (try clear t2); (try clear t1); (try clear t0); (try clear h00); (try clear hle); (try clear hSy); (try clear hIy); (try clear hG); (try clear hC); (try clear hn); (try clear d6); (try clear d5); (try clear d4); (try clear d3); (try clear hq2); (try clear hs2); (try clear hs1); (try clear hp); (try clear h60); (try clear hL); omega) | omega))
      have hp2 := hs2 0 hL
      have hk0 : k ≠ 0 := fun hk => d5 (by (first | ((try clear hk); (try clear hk0); (try clear hp2); (try clear hg); (try clear u4); (try clear u3); (try clear u2); (try clear u1); (try clear u0); (try clear t4); (try clear t3); (try clear t2); (try clear t1); (try clear t0); (try clear h00); (try clear hle); (try clear hSy); (try clear hIy); (try clear hG); (try clear hC); (try clear hn); (try clear d6); (try clear d5); (try clear d4); (try clear d3); (try clear hq2); (try clear hs2); (try clear hs1); (try clear hp); (try clear h60); (try clear hL); omega) | omega)) (a8 hk hPl)
      have hR := zLv_R hk0 a6
      -- enough of that page
      have hm : ∀ m : Nat, m = max l9 1 → zTh m ≤ f1 e := fun m hm => by
        have h5 : l9 = 0 ∨ l9 = 1 ∨ l9 = 2 ∨ l9 = 3 ∨ l9 = 4 := by (first | ((try clear h5); (try clear hm); (try clear hR); (try clear hk0); (try clear hp2); (try clear hg); (try clear hT); (try clear u4); (try clear u3); (try clear u2); (try clear u1); (try clear u0); (try clear t4); (try clear t3); (try clear t2); (try clear t1); (try clear t0); (try clear h00); (try clear hle); (try clear hSy); (try clear hIy); (try clear hG); (try clear hC); (try clear hn); (try clear d6); (try clear d5); (try clear d4); (try clear d3); (try clear hq2); (try clear hs2); (try clear hs1); (try clear hp); (try clear h60); (try clear hL); omega) | omega)
        have h6 : (zT2 l9 + 1 ≤ f1 e) ∨ 2 * zTh l9 ≤ f1 e := by
          by_cases he : e < T
          · have x1 := d3 e a1 he
            have x2 := hs2 e a1
            have x3 := hR.1
            exact Or.inl (by (first | ((try clear he); (try clear h6); (try clear h5); (try clear hm); (try clear hR); (try clear hk0); (try clear hp2); (try clear hg); (try clear hT); (try clear u4); (try clear u3); (try clear u2); (try clear u1); (try clear u0); (try clear t4); (try clear t3); (try clear t2); (try clear t1); (try clear t0); (try clear h00); (try clear hle); (try clear hSy); (try clear hIy); (try clear hG); (try clear hC); (try clear hn); (try clear d6); (try clear d5); (try clear d4); (try clear d3); (try clear hq2); (try clear hs2); (try clear hs1); (try clear h60); (try clear hL); omega) | omega))
          · have x1 := ((d4 e a1 (by (first | ((try clear x1); (try clear h6); (try clear h5); (try clear hm); (try clear hR); (try clear hk0); (try clear hp2); (try clear hg); (try clear hT); (try clear u4); (try clear u3); (try clear u2); (try clear u1); (try clear u0); (try clear t4); (try clear t3); (try clear t2); (try clear t1); (try clear t0); (try clear h00); (try clear hle); (try clear hSy); (try clear hIy); (try clear hG); (try clear hC); (try clear hn); (try clear d6); (try clear d5); (try clear d4); (try clear d3); (try clear hq2); (try clear hs2); (try clear hs1); (try clear hp); (try clear h60); (try clear hL); omega) | omega))).2.2 a2).1
            have x2 := hR.2
            rw [hW_ge (by (first | ((try clear x2); (try clear x1); (try clear h6); (try clear h5); (try clear hm); (try clear hR); (try clear hk0); (try clear hp2); (try clear hg); (try clear hT); (try clear u4); (try clear u3); (try clear u2); (try clear u1); (try clear u0); (try clear t4); (try clear t3); (try clear t2); (try clear t1); (try clear t0); (try clear h00); (try clear hle); (try clear hSy); (try clear hIy); (try clear hG); (try clear hC); (try clear hn); (try clear d6); (try clear d5); (try clear d4); (try clear d3); (try clear hq2); (try clear hs2); (try clear hs1); (try clear hp); (try clear h60); (try clear hL); omega) | omega))] at x2
            exact Or.inr (by (first | ((try clear he); (try clear h6); (try clear h5); (try clear hm); (try clear hR); (try clear hk0); (try clear hp2); (try clear hg); (try clear hT); (try clear u4); (try clear u3); (try clear u2); (try clear u1); (try clear u0); (try clear t4); (try clear t3); (try clear t2); (try clear t1); (try clear t0); (try clear h00); (try clear hle); (try clear hSy); (try clear hIy); (try clear hG); (try clear hC); (try clear hn); (try clear d6); (try clear d5); (try clear d4); (try clear d3); (try clear hq2); (try clear hs2); (try clear hs1); (try clear hp); (try clear h60); (try clear hL); omega) | omega))
        rcases h5 with rfl | rfl | rfl | rfl | rfl
        · obtain rfl : m = 1 := by (first | ((try clear h5); (try clear hR); (try clear hk0); (try clear hp2); (try clear hg); (try clear hT); (try clear u4); (try clear u3); (try clear u2); (try clear u1); (try clear u0); (try clear t4); (try clear t3); (try clear t2); (try clear t1); (try clear t0); (try clear h00); (try clear hle); (try clear hSy); (try clear hIy); (try clear hG); (try clear hC); (try clear hn); (try clear d6); (try clear d5); (try clear d4); (try clear d3); (try clear hq2); (try clear hs2); (try clear hs1); (try clear hp); (try clear h60); (try clear hL); omega) | omega)
          (first | ((try clear h5); (try clear hm); (try clear hR); (try clear hk0); (try clear hp2); (try clear hg); (try clear hT); (try clear u4); (try clear u3); (try clear u2); (try clear u1); (try clear t4); (try clear t3); (try clear t2); (try clear h00); (try clear hle); (try clear hSy); (try clear hIy); (try clear hG); (try clear hC); (try clear hn); (try clear d6); (try clear d5); (try clear d4); (try clear d3); (try clear hq2); (try clear hs2); (try clear hs1); (try clear hp); (try clear h60); (try clear hL); omega) | omega)
        · obtain rfl : m = 1 := by (first | ((try clear h5); (try clear hR); (try clear hk0); (try clear hp2); (try clear hg); (try clear hT); (try clear u4); (try clear u3); (try clear u2); (try clear u1); (try clear u0); (try clear t4); (try clear t3); (try clear t2); (try clear t1); (try clear t0); (try clear h00); (try clear hle); (try clear hSy); (try clear hIy); (try clear hG); (try clear hC); (try clear hn); (try clear d6); (try clear d5); (try clear d4); (try clear d3); (try clear hq2); (try clear hs2); (try clear hs1); (try clear hp); (try clear h60); (try clear hL); omega) | omega)
          (first | ((try clear h5); (try clear hm); (try clear hR); (try clear hk0); (try clear hp2); (try clear hg); (try clear hT); (try clear u4); (try clear u3); (try clear u2); (try clear u0); (try clear t4); (try clear t3); (try clear t2); (try clear t0); (try clear h00); (try clear hle); (try clear hSy); (try clear hIy); (try clear hG); (try clear hC); (try clear hn); (try clear d6); (try clear d5); (try clear d4); (try clear d3); (try clear hq2); (try clear hs2); (try clear hs1); (try clear hp); (try clear h60); (try clear hL); omega) | omega)
        · obtain rfl : m = 2 := by (first | ((try clear h5); (try clear hR); (try clear hk0); (try clear hp2); (try clear hg); (try clear hT); (try clear u4); (try clear u3); (try clear u2); (try clear u1); (try clear u0); (try clear t4); (try clear t3); (try clear t2); (try clear t1); (try clear t0); (try clear h00); (try clear hle); (try clear hSy); (try clear hIy); (try clear hG); (try clear hC); (try clear hn); (try clear d6); (try clear d5); (try clear d4); (try clear d3); (try clear hq2); (try clear hs2); (try clear hs1); (try clear hp); (try clear h60); (try clear hL); omega) | omega)
          (first | ((try clear h5); (try clear hm); (try clear hR); (try clear hk0); (try clear hp2); (try clear hg); (try clear hT); (try clear u4); (try clear u3); (try clear u1); (try clear u0); (try clear t4); (try clear t3); (try clear t1); (try clear t0); (try clear h00); (try clear hle); (try clear hSy); (try clear hIy); (try clear hG); (try clear hC); (try clear hn); (try clear d6); (try clear d5); (try clear d4); (try clear d3); (try clear hq2); (try clear hs2); (try clear hs1); (try clear hp); (try clear h60); (try clear hL); omega) | omega)
        · obtain rfl : m = 3 := by (first | ((try clear h5); (try clear hR); (try clear hk0); (try clear hp2); (try clear hg); (try clear hT); (try clear u4); (try clear u3); (try clear u2); (try clear u1); (try clear u0); (try clear t4); (try clear t3); (try clear t2); (try clear t1); (try clear t0); (try clear h00); (try clear hle); (try clear hSy); (try clear hIy); (try clear hG); (try clear hC); (try clear hn); (try clear d6); (try clear d5); (try clear d4); (try clear d3); (try clear hq2); (try clear hs2); (try clear hs1); (try clear hp); (try clear h60); (try clear hL); omega) | omega)
          (first | ((try clear h5); (try clear hm); (try clear hR); (try clear hk0); (try clear hp2); (try clear hg); (try clear hT); (try clear u4); (try clear u2); (try clear u1); (try clear u0); (try clear t4); (try clear t2); (try clear t1); (try clear t0); (try clear h00); (try clear hle); (try clear hSy); (try clear hIy); (try clear hG); (try clear hC); (try clear hn); (try clear d6); (try clear d5); (try clear d4); (try clear d3); (try clear hq2); (try clear hs2); (try clear hs1); (try clear hp); (try clear h60); (try clear hL); omega) | omega)
        · obtain rfl : m = 4 := by (first | ((try clear h5); (try clear hR); (try clear hk0); (try clear hp2); (try clear hg); (try clear hT); (try clear u4); (try clear u3); (try clear u2); (try clear u1); (try clear u0); (try clear t4); (try clear t3); (try clear t2); (try clear t1); (try clear t0); (try clear h00); (try clear hle); (try clear hSy); (try clear hIy); (try clear hG); (try clear hC); (try clear hn); (try clear d6); (try clear d5); (try clear d4); (try clear d3); (try clear hq2); (try clear hs2); (try clear hs1); (try clear hp); (try clear h60); (try clear hL); omega) | omega)
          (first | ((try clear h5); (try clear hm); (try clear hR); (try clear hk0); (try clear hp2); (try clear hg); (try clear hT); (try clear u3); (try clear u2); (try clear u1); (try clear u0); (try clear t3); (try clear t2); (try clear t1); (try clear t0); (try clear h00); (try clear hle); (try clear hSy); (try clear hIy); (try clear hG); (try clear hC); (try clear hn); (try clear d6); (try clear d5); (try clear d4); (try clear d3); (try clear hq2); (try clear hs2); (try clear hs1); (try clear hp); (try clear h60); (try clear hL); omega) | omega)
      have hT2 : ∀ m : Nat, m < 5 → zT2 m ≤ zTh m := by decide +kernel
      by_cases hk3 : k = 3
      · subst hk3
        have hfo := zps_fo (l := l9) a5 a3 rfl
        have hra := zps_ra (k := 2) (l := max l9 1) (by (first | ((try clear hra); (try clear hfo); (try clear hk3); (try clear hT2); (try clear hm); (try clear hR); (try clear hk0); (try clear hp2); (try clear hg); (try clear hT); (try clear u4); (try clear u3); (try clear u2); (try clear u1); (try clear u0); (try clear t4); (try clear t3); (try clear t2); (try clear t1); (try clear t0); (try clear h00); (try clear hle); (try clear hSy); (try clear hIy); (try clear hG); (try clear hC); (try clear hn); (try clear d6); (try clear d5); (try clear d4); (try clear d3); (try clear hq2); (try clear hs2); (try clear hs1); (try clear hp); (try clear h60); (try clear hL); omega) | omega)) (by (first | ((try clear hra); (try clear hfo); (try clear hk3); (try clear hT2); (try clear hm); (try clear hR); (try clear hk0); (try clear hp2); (try clear hg); (try clear hT); (try clear u4); (try clear u3); (try clear u2); (try clear u1); (try clear u0); (try clear t4); (try clear t3); (try clear t2); (try clear t1); (try clear t0); (try clear h00); (try clear hle); (try clear hSy); (try clear hIy); (try clear hG); (try clear hC); (try clear hn); (try clear d6); (try clear d5); (try clear d4); (try clear d3); (try clear hq2); (try clear hs2); (try clear hs1); (try clear hp); (try clear h60); (try clear hL); omega) | omega)) (Nat.le_add_left 1 (g1 0)) (show g1 0 + 1 ≤ f1 0 by (first | ((try clear hra); (try clear hfo); (try clear hk3); (try clear hT2); (try clear hm); (try clear hR); (try clear hk0); (try clear hT); (try clear u4); (try clear u3); (try clear u2); (try clear u1); (try clear u0); (try clear t4); (try clear t3); (try clear t2); (try clear t1); (try clear t0); (try clear hle); (try clear hSy); (try clear hIy); (try clear hG); (try clear hC); (try clear hn); (try clear d6); (try clear d5); (try clear d4); (try clear d3); (try clear hq2); (try clear hs2); (try clear hs1); (try clear h60); (try clear hL); omega) | omega))
        have hm := hm _ rfl
        refine Or.inr (Or.inr (Or.inl ⟨2, max l9 1, e, a1, hV e a2, by (first | ((try clear hm); (try clear hra); (try clear hfo); (try clear hk3); (try clear hT2); (try clear hR); (try clear hk0); (try clear hp2); (try clear hg); (try clear hT); (try clear u4); (try clear u3); (try clear u2); (try clear u1); (try clear u0); (try clear t4); (try clear t3); (try clear t2); (try clear t1); (try clear t0); (try clear hle); (try clear hSy); (try clear hIy); (try clear hG); (try clear hC); (try clear hn); (try clear d6); (try clear d5); (try clear d4); (try clear d3); (try clear hq2); (try clear hs2); (try clear hs1); (try clear hp); (try clear h60); (try clear hL); omega) | omega), by (first | ((try clear hm); (try clear hra); (try clear hfo); (try clear hk3); (try clear hT2); (try clear hR); (try clear hk0); (try clear hp2); (try clear hg); (try clear hT); (try clear u4); (try clear u3); (try clear u2); (try clear u1); (try clear u0); (try clear t4); (try clear t3); (try clear t2); (try clear t1); (try clear t0); (try clear h00); (try clear hle); (try clear hSy); (try clear hIy); (try clear hG); (try clear hC); (try clear hn); (try clear d6); (try clear d5); (try clear d4); (try clear d3); (try clear hq2); (try clear hs2); (try clear hs1); (try clear hp); (try clear h60); (try clear hL); omega) | omega), by (first | ((try clear hm); (try clear hra); (try clear hfo); (try clear hk3); (try clear hT2); (try clear hR); (try clear hk0); (try clear hp2); (try clear hg); (try clear hT); (try clear u4); (try clear u3); (try clear u2); (try clear u1); (try clear u0); (try clear t4); (try clear t3); (try clear t2); (try clear t1); (try clear t0); (try clear h00); (try clear hle); (try clear hSy); (try clear hIy); (try clear hG); (try clear hC); (try clear hn); (try clear d6); (try clear d5); (try clear d4); (try clear d3); (try clear hq2); (try clear hs2); (try clear hs1); (try clear hp); (try clear h60); (try clear hL); omega) | omega), Or.inr (Or.inl ⟨Or.inr rfl, by (first | ((try clear hm); (try clear hra); (try clear hfo); (try clear hk3); (try clear hT2); (try clear hR); (try clear hk0); (try clear hp2); (try clear hg); (try clear hT); (try clear u4); (try clear u3); (try clear u2); (try clear u1); (try clear u0); (try clear t4); (try clear t3); (try clear t2); (try clear t1); (try clear t0); (try clear h00); (try clear hle); (try clear hSy); (try clear hIy); (try clear hG); (try clear hC); (try clear hn); (try clear d6); (try clear d5); (try clear d4); (try clear d3); (try clear hq2); (try clear hs2); (try clear hs1); (try clear hp); (try clear h60); (try clear hL); omega) | omega), Nat.le_trans (hT2 _ (by (first | ((try clear hm); (try clear hra); (try clear hfo); (try clear hk3); (try clear hT2); (try clear hR); (try clear hk0); (try clear hp2); (try clear hg); (try clear hT); (try clear u4); (try clear u3); (try clear u2); (try clear u1); (try clear u0); (try clear t4); (try clear t3); (try clear t2); (try clear t1); (try clear t0); (try clear h00); (try clear hle); (try clear hSy); (try clear hIy); (try clear hG); (try clear hC); (try clear hn); (try clear d6); (try clear d5); (try clear d4); (try clear d3); (try clear hq2); (try clear hs2); (try clear hs1); (try clear hp); (try clear h60); (try clear hL); omega) | omega))) hm, Or.inl hm⟩), ?_, fun h => by (first | ((try clear hm); (try clear hra); (try clear hfo); (try clear hk3); (try clear hT2); (try clear hR); (try clear hk0); (try clear hp2); (try clear hg); (try clear hT); (try clear u4); (try clear u3); (try clear u2); (try clear u1); (try clear u0); (try clear t4); (try clear t3); (try clear t2); (try clear t1); (try clear t0); (try clear h00); (try clear hle); (try clear hSy); (try clear hIy); (try clear hG); (try clear hC); (try clear hn); (try clear d6); (try clear d5); (try clear d4); (try clear d3); (try clear hq2); (try clear hs2); (try clear hs1); (try clear hp); (try clear h60); (try clear hL); omega) | omega), fun _ _ => ⟨hIy, hSy⟩, fun h => by (first | ((try clear hm); (try clear hra); (try clear hfo); (try clear hk3); (try clear hT2); (try clear hR); (try clear hk0); (try clear hp2); (try clear hg); (try clear hT); (try clear u4); (try clear u3); (try clear u2); (try clear u1); (try clear u0); (try clear t4); (try clear t3); (try clear t2); (try clear t1); (try clear t0); (try clear h00); (try clear hle); (try clear hSy); (try clear hIy); (try clear hG); (try clear hC); (try clear hn); (try clear d6); (try clear d5); (try clear d4); (try clear d3); (try clear hq2); (try clear hs2); (try clear hs1); (try clear hp); (try clear h60); (try clear hL); omega) | omega)⟩))
        unfold zA
        (first | ((try clear hm); (try clear hk3); (try clear hT2); (try clear hR); (try clear hk0); (try clear hT); (try clear u4); (try clear u3); (try clear u2); (try clear u1); (try clear u0); (try clear t4); (try clear t3); (try clear t2); (try clear t1); (try clear t0); (try clear hle); (try clear hSy); (try clear hIy); (try clear hn); (try clear d6); (try clear d5); (try clear d4); (try clear d3); (try clear hq2); (try clear hs2); (try clear hs1); (try clear h60); (try clear hL); omega) | omega)
      · have hk12 : k = 1 ∨ k = 2 := by (first | ((try clear hk12); (try clear hT2); (try clear hm); (try clear hR); (try clear hp2); (try clear hg); (try clear hT); (try clear u4); (try clear u3); (try clear u2); (try clear u1); (try clear u0); (try clear t4); (try clear t3); (try clear t2); (try clear t1); (try clear t0); (try clear h00); (try clear hle); (try clear hSy); (try clear hIy); (try clear hG); (try clear hC); (try clear hn); (try clear d6); (try clear d5); (try clear d4); (try clear d3); (try clear hq2); (try clear hs2); (try clear hs1); (try clear hp); (try clear h60); (try clear hL); omega) | omega)
        obtain ⟨i1, i2⟩ := a9 hk12 hPl
        have hg2 := hq2 i1 i2
        have hl1 : 1 ≤ l9 := by
          rcases a6 with ⟨a, _⟩ | ⟨_, b, _⟩ | ⟨a, _⟩
          · (first | ((try clear b); (try clear hl1); (try clear hg2); (try clear i2); (try clear i1); (try clear hk3); (try clear hT2); (try clear hm); (try clear hR); (try clear hk0); (try clear hp2); (try clear hg); (try clear hT); (try clear u4); (try clear u3); (try clear u2); (try clear u1); (try clear u0); (try clear t4); (try clear t3); (try clear t2); (try clear t1); (try clear t0); (try clear h00); (try clear hle); (try clear hSy); (try clear hIy); (try clear hG); (try clear hC); (try clear hn); (try clear d6); (try clear d5); (try clear d4); (try clear d3); (try clear hq2); (try clear hs2); (try clear hs1); (try clear hp); (try clear h60); (try clear hL); omega) | omega)
          · exact b
          · (first | ((try clear b); (try clear hl1); (try clear hg2); (try clear i2); (try clear i1); (try clear hk3); (try clear hT2); (try clear hm); (try clear hR); (try clear hk0); (try clear hp2); (try clear hg); (try clear hT); (try clear u4); (try clear u3); (try clear u2); (try clear u1); (try clear u0); (try clear t4); (try clear t3); (try clear t2); (try clear t1); (try clear t0); (try clear h00); (try clear hle); (try clear hSy); (try clear hIy); (try clear hG); (try clear hC); (try clear hn); (try clear d6); (try clear d5); (try clear d4); (try clear d3); (try clear hq2); (try clear hs2); (try clear hs1); (try clear hp); (try clear h60); (try clear hL); omega) | omega)
        have hfo := zps_fo2 (l := l9) hk12 a5 hl1 a3 (fun hk => a10 hk hPl i1)
        have hra := zps_ra (k := 2) (l := l9) (by (first | ((try clear hra); (try clear hfo); (try clear hl1); (try clear hg2); (try clear i2); (try clear i1); (try clear hk12); (try clear hk3); (try clear hT2); (try clear hm); (try clear hR); (try clear hk0); (try clear hp2); (try clear hg); (try clear hT); (try clear u4); (try clear u3); (try clear u2); (try clear u1); (try clear u0); (try clear t4); (try clear t3); (try clear t2); (try clear t1); (try clear t0); (try clear h00); (try clear hle); (try clear hSy); (try clear hIy); (try clear hG); (try clear hC); (try clear hn); (try clear d6); (try clear d5); (try clear d4); (try clear d3); (try clear hq2); (try clear hs2); (try clear hs1); (try clear hp); (try clear h60); (try clear hL); omega) | omega)) a5 (show 1 ≤ g1 0 + 2 by (first | ((try clear hra); (try clear hfo); (try clear hl1); (try clear hg2); (try clear i2); (try clear i1); (try clear hk12); (try clear hk3); (try clear hT2); (try clear hm); (try clear hR); (try clear hk0); (try clear hp2); (try clear hg); (try clear hT); (try clear u4); (try clear u3); (try clear u2); (try clear u1); (try clear u0); (try clear t4); (try clear t3); (try clear t2); (try clear t1); (try clear t0); (try clear h00); (try clear hle); (try clear hSy); (try clear hIy); (try clear hG); (try clear hC); (try clear hn); (try clear d6); (try clear d5); (try clear d4); (try clear d3); (try clear hq2); (try clear hs2); (try clear hs1); (try clear hp); (try clear h60); (try clear hL); omega) | omega)) (show g1 0 + 2 ≤ f1 0 by (first | ((try clear hra); (try clear hfo); (try clear hl1); (try clear i2); (try clear i1); (try clear hk12); (try clear hk3); (try clear hT2); (try clear hm); (try clear hR); (try clear hk0); (try clear hp2); (try clear hT); (try clear u4); (try clear u3); (try clear u2); (try clear u1); (try clear u0); (try clear t4); (try clear t3); (try clear t2); (try clear t1); (try clear t0); (try clear hle); (try clear hSy); (try clear hIy); (try clear hG); (try clear hC); (try clear hn); (try clear d6); (try clear d5); (try clear d4); (try clear d3); (try clear hq2); (try clear hs2); (try clear hs1); (try clear hp); (try clear h60); (try clear hL); omega) | omega))
        have hm := hm l9 (by (first | ((try clear hm); (try clear hra); (try clear hfo); (try clear hg2); (try clear i2); (try clear i1); (try clear hk12); (try clear hk3); (try clear hT2); (try clear hR); (try clear hk0); (try clear hp2); (try clear hg); (try clear hT); (try clear u4); (try clear u3); (try clear u2); (try clear u1); (try clear u0); (try clear t4); (try clear t3); (try clear t2); (try clear t1); (try clear t0); (try clear h00); (try clear hle); (try clear hSy); (try clear hIy); (try clear hG); (try clear hC); (try clear hn); (try clear d6); (try clear d5); (try clear d4); (try clear d3); (try clear hq2); (try clear hs2); (try clear hs1); (try clear hp); (try clear h60); (try clear hL); omega) | omega))
        refine Or.inr (Or.inr (Or.inl ⟨2, l9, e, a1, hV e a2, by (first | ((try clear hm); (try clear hra); (try clear hfo); (try clear hl1); (try clear hg2); (try clear i2); (try clear i1); (try clear hk12); (try clear hk3); (try clear hT2); (try clear hR); (try clear hk0); (try clear hp2); (try clear hg); (try clear hT); (try clear u4); (try clear u3); (try clear u2); (try clear u1); (try clear u0); (try clear t4); (try clear t3); (try clear t2); (try clear t1); (try clear t0); (try clear hle); (try clear hSy); (try clear hIy); (try clear hG); (try clear hC); (try clear hn); (try clear d6); (try clear d5); (try clear d4); (try clear d3); (try clear hq2); (try clear hs2); (try clear hs1); (try clear hp); (try clear h60); (try clear hL); omega) | omega), by (first | ((try clear hm); (try clear hra); (try clear hfo); (try clear hl1); (try clear hg2); (try clear i2); (try clear i1); (try clear hk12); (try clear hk3); (try clear hT2); (try clear hR); (try clear hk0); (try clear hp2); (try clear hg); (try clear hT); (try clear u4); (try clear u3); (try clear u2); (try clear u1); (try clear u0); (try clear t4); (try clear t3); (try clear t2); (try clear t1); (try clear t0); (try clear h00); (try clear hle); (try clear hSy); (try clear hIy); (try clear hG); (try clear hC); (try clear hn); (try clear d6); (try clear d5); (try clear d4); (try clear d3); (try clear hq2); (try clear hs2); (try clear hs1); (try clear hp); (try clear h60); (try clear hL); omega) | omega), a5, Or.inr (Or.inl ⟨Or.inr rfl, hl1, Nat.le_trans (hT2 _ a5) hm, Or.inl hm⟩), ?_, fun h => by (first | ((try clear hm); (try clear hra); (try clear hfo); (try clear hl1); (try clear hg2); (try clear i2); (try clear i1); (try clear hk12); (try clear hk3); (try clear hT2); (try clear hR); (try clear hk0); (try clear hp2); (try clear hg); (try clear hT); (try clear u4); (try clear u3); (try clear u2); (try clear u1); (try clear u0); (try clear t4); (try clear t3); (try clear t2); (try clear t1); (try clear t0); (try clear h00); (try clear hle); (try clear hSy); (try clear hIy); (try clear hG); (try clear hC); (try clear hn); (try clear d6); (try clear d5); (try clear d4); (try clear d3); (try clear hq2); (try clear hs2); (try clear hs1); (try clear hp); (try clear h60); (try clear hL); omega) | omega), fun _ _ => ⟨hIy, hSy⟩, fun h => by (first | ((try clear hm); (try clear hra); (try clear hfo); (try clear hl1); (try clear hg2); (try clear i2); (try clear i1); (try clear hk12); (try clear hk3); (try clear hT2); (try clear hR); (try clear hk0); (try clear hp2); (try clear hg); (try clear hT); (try clear u4); (try clear u3); (try clear u2); (try clear u1); (try clear u0); (try clear t4); (try clear t3); (try clear t2); (try clear t1); (try clear t0); (try clear h00); (try clear hle); (try clear hSy); (try clear hIy); (try clear hG); (try clear hC); (try clear hn); (try clear d6); (try clear d5); (try clear d4); (try clear d3); (try clear hq2); (try clear hs2); (try clear hs1); (try clear hp); (try clear h60); (try clear hL); omega) | omega)⟩))
        unfold zA
        (first | ((try clear hm); (try clear hl1); (try clear i2); (try clear i1); (try clear hk12); (try clear hk3); (try clear hT2); (try clear hR); (try clear hk0); (try clear hp2); (try clear hT); (try clear u4); (try clear u3); (try clear u2); (try clear u1); (try clear u0); (try clear t4); (try clear t3); (try clear t2); (try clear t1); (try clear t0); (try clear hle); (try clear hSy); (try clear hIy); (try clear hn); (try clear d6); (try clear d5); (try clear d4); (try clear d3); (try clear hq2); (try clear hs2); (try clear hs1); (try clear hp); (try clear h60); (try clear hL); omega) | omega)
  · unfold zA at a6
    have heT : e < T := by
      by_cases he : e < T
      · exact he
      · have x1 := ((d4 e a2 (by (first | ((try clear x1); (try clear heT); (try clear u4); (try clear u3); (try clear u2); (try clear u1); (try clear u0); (try clear t4); (try clear t3); (try clear t2); (try clear t1); (try clear t0); (try clear h00); (try clear hle); (try clear hSy); (try clear hIy); (try clear hG); (try clear hC); (try clear hn); (try clear d6); (try clear d5); (try clear d4); (try clear d3); (try clear hq2); (try clear hs2); (try clear hs1); (try clear hp); (try clear h60); (try clear hL); omega) | omega))).2.2 a3).1
        have x2 := h60 e a2
        (first | ((try clear he); (try clear heT); (try clear u4); (try clear u3); (try clear u2); (try clear u1); (try clear u0); (try clear t4); (try clear t3); (try clear t2); (try clear t1); (try clear t0); (try clear h00); (try clear hle); (try clear hSy); (try clear hIy); (try clear hG); (try clear hC); (try clear hn); (try clear d6); (try clear d5); (try clear d4); (try clear d3); (try clear hq2); (try clear hs2); (try clear hs1); (try clear hp); (try clear h60); (try clear hL); omega) | omega)
    have hg := d3 0 hL (by (first | ((try clear hg); (try clear u4); (try clear u3); (try clear u2); (try clear u1); (try clear u0); (try clear t4); (try clear t3); (try clear t2); (try clear t1); (try clear t0); (try clear h00); (try clear hle); (try clear hSy); (try clear hIy); (try clear hG); (try clear hC); (try clear hn); (try clear d6); (try clear d5); (try clear d4); (try clear d3); (try clear hq2); (try clear hs2); (try clear hs1); (try clear hp); (try clear h60); (try clear hL); omega) | omega))
    have hp2 := hs2 0 hL
    have hge := hle e a2
    refine Or.inr (Or.inr (Or.inr ⟨n, e, a1, a2, hV e a3, fun e2 h2 => Nat.le_trans (a4 e2 h2) (hle e2 (by (first | ((try clear hge); (try clear hp2); (try clear hg); (try clear heT); (try clear u4); (try clear u3); (try clear u2); (try clear u1); (try clear u0); (try clear t4); (try clear t3); (try clear t2); (try clear t1); (try clear t0); (try clear h00); (try clear hle); (try clear hSy); (try clear hIy); (try clear hG); (try clear hC); (try clear hn); (try clear d6); (try clear d5); (try clear d4); (try clear d3); (try clear hq2); (try clear hs2); (try clear hs1); (try clear hp); (try clear h60); (try clear hL); omega) | omega))), by (first | ((try clear h2); (try clear e2); (try clear hp2); (try clear hg); (try clear heT); (try clear u4); (try clear u3); (try clear u2); (try clear u1); (try clear u0); (try clear t4); (try clear t3); (try clear t2); (try clear t1); (try clear t0); (try clear h00); (try clear hle); (try clear hSy); (try clear hIy); (try clear hG); (try clear hC); (try clear hn); (try clear d6); (try clear d5); (try clear d4); (try clear d3); (try clear hq2); (try clear hs2); (try clear hs1); (try clear hp); (try clear h60); (try clear hL); omega) | omega), ?_⟩))
    unfold zA
    (first | ((try clear hge); (try clear heT); (try clear u4); (try clear u3); (try clear u2); (try clear u1); (try clear u0); (try clear t4); (try clear t3); (try clear t2); (try clear t1); (try clear t0); (try clear h00); (try clear hle); (try clear hSy); (try clear hIy); (try clear hn); (try clear d6); (try clear d5); (try clear d4); (try clear d3); (try clear hq2); (try clear hs2); (try clear hs1); (try clear h60); (try clear hL); omega) | omega)
/-- an option of what stood in the skeleton -/
theorem ZN_op {z : Nat} {v : Int} {l : Rw} {L L2 : Nat} {V : Nat → Prop} {f h : Nat → Nat} {q q2 : Prop} (h2 : L2 ≤ L) (hPl : rPl l) (hp : 1 ≤ pV l) (hn : ZN l L2 V f h q2) : ZN (.inner z 3 v l .leaf) L V f h q := by
  have hC : zC (.inner z 3 v l .leaf) ≤ zC l := by
    unfold zC
    have e1 : rN (Std.DTreeMap.Internal.Impl.inner z 3 v l .leaf : Rw) = 1 + rN l + 0 := rfl
    have e2 : pV (Std.DTreeMap.Internal.Impl.inner z 3 v l .leaf : Rw) = 0 + 0 := rfl
    (first | ((try clear hC); (try clear h2); omega) | omega)
  have hG : rL (Std.DTreeMap.Internal.Impl.inner z 3 v l .leaf : Rw) = rL l := by
    have e1 : rL (Std.DTreeMap.Internal.Impl.inner z 3 v l .leaf : Rw) = 0 + rL l + 0 := rfl
    (first | ((try clear hG); (try clear hC); (try clear hp); (try clear h2); omega) | omega)
  have hPy : ¬ rPl (Std.DTreeMap.Internal.Impl.inner z 3 v l .leaf : Rw) := fun h => h.elim (fun h => h rfl) (fun h => h)
  generalize (Std.DTreeMap.Internal.Impl.inner z 3 v l .leaf : Rw) = y at hC hG hPy ⊢
  rcases hn with e0 | ⟨a0, _⟩ | ⟨k, l9, e, a1, a2, a3, a4, a5, a6, a7, _⟩ | ⟨n, e, a1, a2, a3, a4, a5, a6⟩
  · subst e0; exact hPl.elim
  · exact absurd hPl a0
  · unfold zA at a7
    refine Or.inr (Or.inr (Or.inl ⟨k, l9, e, by (first | ((try clear hPy); (try clear hG); (try clear hC); (try clear hp); omega) | omega), a2, a3, a4, a5, a6, ?_, fun _ h => absurd h hPy, fun _ h => absurd h hPy, fun _ h => absurd h hPy⟩))
    unfold zA
    (first | ((try clear hPy); (try clear hp); (try clear h2); omega) | omega)
  · unfold zA at a6
    refine Or.inr (Or.inr (Or.inr ⟨n, e, a1, by (first | ((try clear hPy); (try clear hG); (try clear hC); (try clear hp); omega) | omega), a3, a4, a5, ?_⟩))
    unfold zA
    (first | ((try clear hPy); (try clear hp); (try clear h2); omega) | omega)
/-! what the items of a page come to -/
theorem rI_1 {z k : Nat} {v : Int} {l r : Rw} (h : rI (Std.DTreeMap.Internal.Impl.inner z k v l r : Rw) = 1) : r = .leaf := by
  rw [rI_in] at h
  cases r with
  | leaf => rfl
  | inner _ _ _ _ _ => rw [rI_in] at h; omega
def pgA (a b c a1 b1 c1 N G T : Nat) : Prop := (N + a ≤ G ∧ a1 ≤ T) ∨ (N + b ≤ G ∧ b1 ≤ T) ∨ (N + c ≤ G ∧ c1 ≤ T)
def PGz (w : Rw) : Prop :=
  (rSm w ∧ rN w = rT w ∧ 1 ≤ rL w ∧ rL w ≤ rT w ∧ rT w ≤ 2 * rL w ∧ ((rSg w ∧ rT w = 1) ∨ (rBd w ∧ rL w = 1 ∧ rT w = 2) ∨ 2 ≤ rL w)) ∨
  (rRR w ∧ 2 * rN w = rT w + 2 ∧ 2 ≤ rL w ∧ 2 * rL w ≤ rT w ∧ rT w ≤ 4 * rL w) ∨
  (3 ≤ rL w ∧ pgA 399 279 159 10 20 40 (120 * rN w) (413 * rL w) (rT w)) ∨
  (3 ≤ rL w ∧ pgA 519 399 279 5 10 20 (120 * rN w) (413 * rL w) (rT w))
theorem PG_is : ∀ w : Rw, rWF w → rPg w → rAd w → pHc w → rT w ≤ 60 → w ≠ .leaf → PGz w
  | .leaf, _, _, _, _, _, h => absurd rfl h
  | .inner z k v l r, hw, hp, hA, hH, hT, _ => by
    have eL : ∀ x : Rw, rL (Std.DTreeMap.Internal.Impl.inner z k v l x : Rw) = (if k < 3 then 1 else 0) + rL l + rL x := fun _ => rfl
    have eT : ∀ x : Rw, rT (Std.DTreeMap.Internal.Impl.inner z k v l x : Rw) = (if k < 3 then 1 else 2 * rT l) + rT x := fun _ => rfl
    have eN : ∀ x : Rw, rN (Std.DTreeMap.Internal.Impl.inner z k v l x : Rw) = 1 + rN l + rN x := fun _ => rN_in
    have hr : r ≠ .leaf → PGz r := fun hne => PG_is r hw.2.2.2.2.2.2.2 hp.2.2 hA.2.2.2 hH.2.2 (by rw [eT] at hT; omega) hne
    have h0N : rN (Std.DTreeMap.Internal.Impl.leaf : Rw) = 0 := rfl
    have h0L : rL (Std.DTreeMap.Internal.Impl.leaf : Rw) = 0 := rfl
    have h0T : rT (Std.DTreeMap.Internal.Impl.leaf : Rw) = 0 := rfl
    have hit : PGz (.inner z k v l .leaf) := by
      by_cases hk : k < 3
      · left
        have hl := hw.2.1 hk
        subst hl
        have x1 := eL .leaf
        have x2 := eT .leaf
        have x3 := eN .leaf
        rw [if_pos hk] at x1 x2
        exact ⟨⟨Or.inl hk, trivial⟩, by (first | ((try clear x1); (try clear hk); omega) | omega), by (first | ((try clear x3); (try clear x2); (try clear hk); omega) | omega), by (first | ((try clear x3); (try clear hk); omega) | omega), by (first | ((try clear x3); (try clear hk); omega) | omega), Or.inl ⟨hk, by (first | ((try clear x3); (try clear x1); (try clear hk); omega) | omega)⟩⟩
      · have hk4 : k = 4 := by have := hw.1; have := hp.1; (first | ((try clear hk4); omega) | omega)
        have x1 := eL .leaf
        have x2 := eT .leaf
        have x3 := eN .leaf
        rw [if_neg hk] at x1 x2
        have hT9 : rT l ≤ 60 := by
          rw [eT, if_neg hk] at hT
          (first | ((try clear hT9); (try clear x3); (try clear x2); (try clear x1); (try clear hk4); (try clear hk); omega) | omega)
        have hTx : 2 * rT l ≤ 60 := by
          rw [eT, if_neg hk] at hT
          (first | ((try clear hTx); (try clear x3); (try clear x2); (try clear x1); (try clear hk4); (try clear hk); omega) | omega)
        have hl := PG_is l hw.2.2.2.2.2.2.1 hp.2.1 hA.2.2.1 hH.2.1 hT9 (hw.2.2.1 (by (first | ((try clear hTx); (try clear hT9); (try clear x3); (try clear x2); (try clear x1); (try clear hk); omega) | omega)))
        rcases hl with ⟨a, b, c, d, d2, e⟩ | ⟨a, _⟩ | ⟨a3, a⟩ | ⟨a3, a⟩
        · rcases e with ⟨e, e2⟩ | ⟨e, _⟩ | e
          · exact Or.inl ⟨⟨Or.inr ⟨hk4, e⟩, trivial⟩, by (first | ((try clear a3); (try clear d2); (try clear hTx); (try clear hT9); (try clear x1); (try clear hk4); (try clear hk); omega) | omega), by (first | ((try clear a3); (try clear hTx); (try clear hT9); (try clear x3); (try clear x2); (try clear hk4); (try clear hk); omega) | omega), by (first | ((try clear a3); (try clear hTx); (try clear hT9); (try clear x3); (try clear hk4); (try clear hk); omega) | omega), by (first | ((try clear a3); (try clear hTx); (try clear hT9); (try clear x3); (try clear hk4); (try clear hk); omega) | omega), Or.inr (Or.inl ⟨Or.inr ⟨hk4, e⟩, by (first | ((try clear a3); (try clear hTx); (try clear hT9); (try clear x3); (try clear x2); (try clear hk4); (try clear hk); omega) | omega), by (first | ((try clear a3); (try clear d2); (try clear hTx); (try clear hT9); (try clear x3); (try clear x1); (try clear hk4); (try clear hk); omega) | omega)⟩)⟩
          · exact absurd e (hA.1 hk4)
          · exact Or.inr (Or.inl ⟨⟨hk4, a⟩, by (first | ((try clear e2); (try clear a3); (try clear d2); (try clear hTx); (try clear hT9); (try clear x1); (try clear hk4); (try clear hk); omega) | omega), by (first | ((try clear e2); (try clear a3); (try clear d2); (try clear b); (try clear hTx); (try clear hT9); (try clear x3); (try clear x2); (try clear hk4); (try clear hk); omega) | omega), by (first | ((try clear e2); (try clear a3); (try clear d2); (try clear hTx); (try clear hT9); (try clear x3); (try clear hk4); (try clear hk); omega) | omega), by (first | ((try clear e2); (try clear a3); (try clear hTx); (try clear hT9); (try clear x3); (try clear hk4); (try clear hk); omega) | omega)⟩)
        · exact absurd a (hH.1 hk4).1
        · refine Or.inr (Or.inr (Or.inl ⟨by (first | ((try clear d2); (try clear b); (try clear hTx); (try clear hT9); (try clear x3); (try clear x2); (try clear hk4); (try clear hk); omega) | omega), ?_⟩))
          unfold pgA at a ⊢
          (first | ((try clear a3); (try clear d2); (try clear b); (try clear hk4); (try clear hk); omega) | omega)
        · refine Or.inr (Or.inr (Or.inl ⟨by (first | ((try clear d2); (try clear b); (try clear hTx); (try clear hT9); (try clear x3); (try clear x2); (try clear hk4); (try clear hk); omega) | omega), ?_⟩))
          unfold pgA at a ⊢
          (first | ((try clear a3); (try clear d2); (try clear b); (try clear hk4); (try clear hk); omega) | omega)
    by_cases hne : r = .leaf
    · rw [hne]; exact hit
    · have hr := hr hne
      have yL : rL (Std.DTreeMap.Internal.Impl.inner z k v l r : Rw) = rL (Std.DTreeMap.Internal.Impl.inner z k v l .leaf : Rw) + rL r := by
        rw [eL, eL]; (first | ((try clear yL); (try clear hne); omega) | omega)
      have yT : rT (Std.DTreeMap.Internal.Impl.inner z k v l r : Rw) = rT (Std.DTreeMap.Internal.Impl.inner z k v l .leaf : Rw) + rT r := by
        rw [eT, eT]; (first | ((try clear yT); (try clear yL); (try clear hne); omega) | omega)
      have yN : rN (Std.DTreeMap.Internal.Impl.inner z k v l r : Rw) = rN (Std.DTreeMap.Internal.Impl.inner z k v l .leaf : Rw) + rN r := by
        rw [eN, eN]; (first | ((try clear yN); (try clear yT); (try clear yL); (try clear hne); omega) | omega)
      have hSm : rSm (Std.DTreeMap.Internal.Impl.inner z k v l .leaf : Rw) → rSm r → rSm (Std.DTreeMap.Internal.Impl.inner z k v l r : Rw) := fun h h2 => ⟨h.1, h2⟩
      clear eL eT eN hw hp hA hH
      generalize (Std.DTreeMap.Internal.Impl.inner z k v l .leaf : Rw) = x at yL yT yN hSm hit
      generalize (Std.DTreeMap.Internal.Impl.inner z k v l r : Rw) = y at yL yT yN hSm hT ⊢
      rcases hit with ⟨a, b, c, d, d2, _⟩ | ⟨_, b, c, d, d2⟩ | ⟨a3, a⟩ | ⟨a3, a⟩
      · rcases hr with ⟨a9, b9, c9, d9, g9, _⟩ | ⟨_, b9, c9, d9, g9⟩ | ⟨a9, g9⟩ | ⟨a9, g9⟩
        · exact Or.inl ⟨hSm a a9, by (first | ((try clear g9); (try clear a9); (try clear d9); (try clear c9); (try clear a3); (try clear d2); (try clear hSm); (try clear yL); (try clear hne); omega) | omega), by (first | ((try clear g9); (try clear a9); (try clear d9); (try clear b9); (try clear a3); (try clear d2); (try clear b); (try clear hSm); (try clear yN); (try clear yT); (try clear hne); omega) | omega), by (first | ((try clear g9); (try clear a9); (try clear c9); (try clear a3); (try clear d2); (try clear hSm); (try clear yN); (try clear hne); omega) | omega), by (first | ((try clear a9); (try clear d9); (try clear c9); (try clear a3); (try clear hSm); (try clear yN); (try clear hne); omega) | omega), Or.inr (Or.inr (by (first | ((try clear g9); (try clear a9); (try clear d9); (try clear b9); (try clear a3); (try clear d2); (try clear b); (try clear hSm); (try clear yN); (try clear yT); (try clear hne); omega) | omega)))⟩
        all_goals refine Or.inr (Or.inr (Or.inr ⟨by (first | ((try clear g9); (try clear d9); (try clear b9); (try clear a3); (try clear hSm); (try clear yN); (try clear hne); omega) | omega), ?_⟩))
        all_goals unfold pgA at *
        all_goals (first | ((try clear a9); (try clear a3); (try clear hSm); (try clear hne); omega) | omega)
      all_goals rcases hr with ⟨_, b9, c9, d9, g9, _⟩ | ⟨_, b9, c9, d9, g9⟩ | ⟨a9, g9⟩ | ⟨a9, g9⟩
      all_goals refine Or.inr (Or.inr (Or.inr ⟨by (first | ((try clear g9); (try clear d9); (try clear b9); (try clear hSm); (try clear yN); (try clear hne); omega) | omega), ?_⟩))
      all_goals unfold pgA at *
      all_goals (first | ((try clear a9); (try clear a3); (try clear hSm); (try clear hne); omega) | omega)
theorem pV_pg : ∀ w : Rw, rWF w → rPg w → pV w = rL w
  | .leaf, _, _ => rfl
  | .inner z k v l r, hw, hp => by
    have e1 : pV (Std.DTreeMap.Internal.Impl.inner z k v l r : Rw) = (if k < 3 then 1 else if k = 3 then 0 else pV l) + pV r := rfl
    have e2 : rL (Std.DTreeMap.Internal.Impl.inner z k v l r : Rw) = (if k < 3 then 1 else 0) + rL l + rL r := rfl
    have h1 := pV_pg l hw.2.2.2.2.2.2.1 hp.2.1
    have h2 := pV_pg r hw.2.2.2.2.2.2.2 hp.2.2
    have h3 := hp.1
    rw [e1, e2]
    by_cases hk : k < 3
    · rw [hw.2.1 hk, if_pos hk, if_pos hk, h2]
      rfl
    · rw [if_neg hk, if_neg hk, if_neg h3, h1, h2]
      omega
/-- a repeat alone in a repeat of a page -/
theorem PG_ns {z : Nat} {v : Int} {l : Rw} (hw : rWF (.inner z 4 v l .leaf)) (hp : rPg (.inner z 4 v l .leaf)) (hA : rAd (.inner z 4 v l .leaf)) (hH : pHc (.inner z 4 v l .leaf)) (hT : rT (.inner z 4 v l .leaf) ≤ 60) (hR : ¬ rRR (.inner z 4 v l .leaf)) : 5 ≤ rT l ∧ 3 ≤ pV l := by
  have eT : rT (Std.DTreeMap.Internal.Impl.inner z 4 v l .leaf : Rw) = 2 * rT l + 0 := rfl
  rw [pV_pg l hw.2.2.2.2.2.2.1 hp.2.1]
  rcases PG_is l hw.2.2.2.2.2.2.1 hp.2.1 hA.2.2.1 hH.2.1 (by (first | ((try clear hR); omega) | omega)) (hw.2.2.1 (by (first | ((try clear eT); (try clear hR); (try clear hT); omega) | omega))) with ⟨a, _⟩ | ⟨a, _⟩ | ⟨a, b⟩ | ⟨a, b⟩
  · exact absurd (show rRR (.inner z 4 v l .leaf) from ⟨rfl, a⟩) hR
  · exact absurd a (hH.1 rfl).1
  · unfold pgA at b; (first | ((try clear hR); omega) | omega)
  · unfold pgA at b; (first | ((try clear hR); omega) | omega)
/-- what a page's row says of what stands beside its repeats -/
theorem pgH_is : ∀ (w : Rw) (x : Nat), rWF w → rPg w → rAd w → pHc w → rT w ≤ 60 → (∀ (m z : Nat) (v : Int) (l r : Rw), rdrop m w = .inner z 4 v l r → bH (2 * rT l) x) → pgH w x
  | .leaf, _, _, _, _, _, _, _ => trivial
  | .inner z k v l r, x, hw, hp, hA, hH, hT, h => by
    rw [rT_in] at hT
    refine ⟨fun hk => ?_, pgH_is r x hw.2.2.2.2.2.2.2 hp.2.2 hA.2.2.2 hH.2.2 (by omega) (fun m z5 v5 l5 r5 e => h (m + 1) z5 v5 l5 r5 e)⟩
    subst hk
    rw [if_neg (by omega)] at hT
    have hwl := hw.2.2.2.2.2.2.1
    have hR := (hH.1 rfl).1
    refine ⟨h 0 z v l r rfl, pgH_is l (rT l) hwl hp.2.1 hA.2.2.1 hH.2.1 (by omega) (fun m z5 v5 l5 r5 e => ?_), fun hI z5 k5 v5 l5 r5 e hk5 => ?_⟩
    · have x1 := rdrop_I m l
      rw [e, rI_in] at x1
      have x2 := rpre_T m l .leaf
      rw [e, rT_ge (by omega), rT_0] at x2
      have x3 := rI_T (rpre m l .leaf) (rpre_WF m l .leaf hwl trivial)
      have e0 : rI (Std.DTreeMap.Internal.Impl.leaf : Rw) = 0 := rfl
      rw [rpre_I m l .leaf (by omega), e0] at x3
      have hwd := rdrop_WF m l hwl
      rw [e] at hwd
      have x4 := rI_T r5 hwd.2.2.2.2.2.2.2
      by_cases hI : rI l = 1
      · obtain rfl : m = 0 := by omega
        have e : l = .inner z5 4 v5 l5 r5 := e
        subst e
        have er := rI_1 hI
        subst er
        have h5 := (PG_ns hwl hp.2.1 hA.2.2.1 hH.2.1 (by (first | ((try clear h5); (try clear er); omega) | omega)) hR).1
        exact Or.inr (by (first | ((try clear er); omega) | omega))
      · exact Or.inl (by omega)
    · subst e
      subst hk5
      have er := rI_1 hI
      subst er
      exact (PG_ns hwl hp.2.1 hA.2.2.1 hH.2.1 (by (first | ((try clear er); omega) | omega)) hR).2
theorem PG_v {w : Rw} (hw : rWF w) (hp : rPg w) (hA : rAd w) (hH : pHc w) (hT : rT w ≤ 60) (hne : w ≠ .leaf) : 120 * (rN w + 1) + 53 ≤ 413 * rL w ∨ (120 * (rN w + 1) + 39 ≤ 413 * rL w ∧ 40 ≤ rT w) := by
  rcases PG_is w hw hp hA hH hT hne with ⟨_, b, c, d, d2, _⟩ | ⟨_, b, c, d, d2⟩ | ⟨_, a⟩ | ⟨_, a⟩
  · (first | ((try clear hne); omega) | omega)
  · (first | ((try clear hne); omega) | omega)
  · unfold pgA at a; (first | ((try clear d2); (try clear b); (try clear hne); omega) | omega)
  · unfold pgA at a; (first | ((try clear d2); (try clear b); (try clear hne); (try clear hT); omega) | omega)
/-- an option of a page's items -/
theorem ZN_pg {z : Nat} {v : Int} {l : Rw} {L e : Nat} {V : Nat → Prop} {f h : Nat → Nat} {q : Prop} (hw : rWF l) (hp : rPg l) (hA : rAd l) (hH : pHc l) (hT : rT l ≤ 60) (hne : l ≠ .leaf) (he : e < L) (hV : V e) (hf : rT l ≤ f e) : ZN (.inner z 3 v l .leaf) L V f h q := by
  have hv := PG_v hw hp hA hH hT hne
  have hI := rT_pos l hw hne
  have e1 : rN (Std.DTreeMap.Internal.Impl.inner z 3 v l .leaf : Rw) = 1 + rN l + 0 := rfl
  have e2 : pV (Std.DTreeMap.Internal.Impl.inner z 3 v l .leaf : Rw) = 0 + 0 := rfl
  have e3 : rL (Std.DTreeMap.Internal.Impl.inner z 3 v l .leaf : Rw) = 0 + rL l + 0 := rfl
  refine Or.inr (Or.inl ⟨fun h => h.elim (fun h => h rfl) (fun h => h), e, he, hV, by (first | ((try clear e3); (try clear e2); (try clear e1); (try clear he); (try clear hne); omega) | omega), ?_⟩)
  unfold zC
  (first | ((try clear he); (try clear hne); omega) | omega)
/-- a repeat alone in a repeat has two tokens of the first page at least -/
theorem QL_2 {w : Rw} {L : Nat} {V : Nat → Prop} {f h : Nat → Nat} {q : Prop} (hL : 1 ≤ L) (h9 : QL w L V f h q) (hq : q) (hI : rI w = 1) (hS : ¬ rSg w) (hP : rPl w) : 2 ≤ f 0 := by
  cases w with
  | leaf => exact hP.elim
  | inner z k v l r =>
    cases r with
    | inner _ _ _ _ r => rw [rI_in, rI_in] at hI; (first | ((try clear v); (try clear k); (try clear z); (try clear hL); omega) | omega)
    | leaf =>
      obtain ⟨f1, f2, h1, h2, h3⟩ := h9
      have h10 := h1 0 hL
      rcases h3 with ⟨a, _⟩ | ⟨a, _⟩ | ⟨a, _⟩ | ⟨a, b, T, g1, g2, V2, c, d, d2, d3, d4, d5, d6⟩
      · exact absurd a hS
      · exact absurd a (hP.elim (fun h => h) (fun h => h.elim))
      · exact absurd a (hP.elim (fun h => h) (fun h => h.elim))
      · rcases d6 hq with h5 | h5
        · have h6 := d3 0 hL (by (first | ((try clear h6); (try clear d6); (try clear d5); (try clear d4); (try clear d3); (try clear d2); (try clear V2); (try clear g2); (try clear g1); (try clear b); (try clear h10); (try clear h3); (try clear h2); (try clear h1); (try clear r); (try clear hI); (try clear hL); omega) | omega))
          have h7 := PL_S1 l (QL_PL l d) b
          have h8 := PL_S l (QL_PL l d) 0 hL
          have h9 := PL_S l (QL_PL l d2) 0 hL
          (first | ((try clear d6); (try clear d5); (try clear d4); (try clear d3); (try clear d2); (try clear V2); (try clear b); (try clear h3); (try clear h2); (try clear h1); (try clear r); (try clear hI); (try clear hL); omega) | omega)
        · (first | ((try clear d6); (try clear d5); (try clear d4); (try clear d3); (try clear d2); (try clear V2); (try clear g2); (try clear g1); (try clear b); (try clear h3); (try clear h2); (try clear h1); (try clear r); (try clear hI); (try clear hL); omega) | omega)
theorem ZN_is : ∀ (w : Rw) {L : Nat} {V : Nat → Prop} {f h : Nat → Nat} {q : Prop}, 1 ≤ L → rWF w → rAd w → (∀ e : Nat, e < L → f e ≤ 60) → QL w L V f h q → ZN w L V f h q
  | .leaf, _, _, _, _, _, _, _, _, _, _ => Or.inl rfl
  | .inner z k v l r, L, V, f, h, q, hL, hw, hA, hf, ⟨f1, f2, h1, h2, h3⟩ => by
    have hr := ZN_is r hL hw.2.2.2.2.2.2.2 hA.2.2.2 (fun e he => by have := h1 e he; have := hf e he; omega) h2
    have hf1 : ∀ e : Nat, e < L → f1 e ≤ 60 := fun e he => by have := h1 e he; have := hf e he; omega
    have hwl := hw.2.2.2.2.2.2.1
    have hp2 : rPl r → ∀ e : Nat, e < L → 1 ≤ f2 e := fun hP e he => by
      have x1 := PL_S1 r (QL_PL r h2) hP
      have x2 := PL_S r (QL_PL r h2) e he
      omega
    refine ZN_up hL h1 ?_
    rcases h3 with ⟨a, b, e, c, d⟩ | ⟨a, ⟨b, b2⟩, e, c, d, g9⟩ | ⟨a, b, L2, c, d, e⟩ | ⟨a, b, T, g1, g2, V2, c, d, d2, d3, d4, d5, d6⟩
    · refine ZN_jn hL (fun _ => b) hp2 ?_ hr
      have hl := hw.2.1 a
      subst hl
      have x0 := b 0 hL
      refine ZN_0 c d x0 (b e c) (fun _ => a) ?_
      have x1 := zps_L x0
      have e1 : rN (Std.DTreeMap.Internal.Impl.inner z k v .leaf .leaf : Rw) = 1 := rfl
      have e2 : pV (Std.DTreeMap.Internal.Impl.inner z k v .leaf .leaf : Rw) = (if k < 3 then 1 else if k = 3 then 0 else 0) + 0 := rfl
      have e3 : rL (Std.DTreeMap.Internal.Impl.inner z k v .leaf .leaf : Rw) = (if k < 3 then 1 else 0) + 0 + 0 := rfl
      rw [if_pos a] at e2 e3
      unfold zC zA
      omega
    · subst a
      refine ZN_jn hL (fun h => absurd rfl h) hp2 ?_ hr
      have x0 := hf1 e c
      exact ZN_pg hwl b hA.2.2.1 b2.2 (by omega) (hw.2.2.1 (by omega)) c d g9
    · subst a
      refine ZN_jn hL (fun h => absurd rfl h) hp2 ?_ hr
      have hne := hw.2.2.1 (by omega)
      have hPl := NO_Pl l b hne
      exact ZN_op d hPl (PL_S1 l (QL_PL l e) hPl) (ZN_is l c hwl hA.2.2.1 (fun e2 he2 => hf1 e2 (by omega)) e)
    · subst a
      have x1 := PL_S1 l (QL_PL l d) b
      have hg : ∀ e : Nat, e < L → g1 e ≤ f1 e := fun e he => by
        by_cases hT : e < T
        · have := d3 e he hT; omega
        · exact (d4 e he (by omega)).2.1
      refine ZN_jn hL (fun _ e he => ?_) hp2 ?_ hr
      · have x2 := PL_S l (QL_PL l d) e he
        have x3 := hg e he
        omega
      · exact ZN_rp hL b hf1 c x1 (PL_S l (QL_PL l d)) (PL_S l (QL_PL l d2)) (fun hI hS => QL_2 hL d2 hI hI hS b) d3 d4 d5 d6 (ZN_is l hL hwl hA.2.2.1 (fun e he => Nat.le_trans (hg e he) (hf1 e he)) d)
/-- signs and nodes have room -/
theorem QL_N {w : Rw} {L : Nat} {V : Nat → Prop} {f h : Nat → Nat} {q : Prop} (hL : 1 ≤ L) (hw : rWF w) (hA : rAd w) (hf : ∀ e : Nat, e < L → f e ≤ 60) (h9 : QL w L V f h q) : 120 * (rN w + pV w) ≤ 413 * rL w + 9480 := by
  have h0 := hf 0 hL
  rcases ZN_is w hL hw hA hf h9 with rfl | ⟨_, e, a1, a2, a3, a4⟩ | ⟨k, l, e, a1, a2, a3, a4, a5, a6, a7, _⟩ | ⟨n, e, a1, a2, a3, a4, a5, a6⟩
  · show 120 * (0 + 0) ≤ _
    (first | ((try clear hf); (try clear hL); omega) | omega)
  · unfold zC at a4
    (first | ((try clear hf); (try clear hL); omega) | omega)
  · unfold zC zA at a7
    (first | ((try clear hf); (try clear hL); omega) | omega)
  · unfold zC zA at a6
    have := hf e a2
    (first | ((try clear hf); (try clear hL); omega) | omega)

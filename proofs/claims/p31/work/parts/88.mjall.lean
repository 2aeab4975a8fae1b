
/-! what is kept of each skeleton; laying keeps it -/
def JW (w : Rw) : Prop := rWF w ∧ rAd w ∧ ∃ (L : Nat) (f : Nat → Nat), 1 ≤ L ∧ PL w L (fun _ => True) f ∧ ∀ e : Nat, e < L → f e ≤ 60
def JS (w : Rw) : Prop := JW w ∧ rL w ≤ 160
theorem JW_b {w : Rw} (h : JW w) : rN w + pV w ≤ 4 * rL w + 120 ∧ rI w ≤ rL w ∧ rH w ≤ 16 ∧ rRF w := by
  obtain ⟨h1, h2, L, f, h3, h4, h5⟩ := h
  exact ⟨PL_N h3 h1 h2 h5 h4, rI_L w h1, PL_H h1 h2 h5 h4, PL_RF w h1 h4⟩
theorem PL_pg : ∀ (w : Rw) {V : Nat → Prop} {f : Nat → Nat}, rWF w → rPg w → V 0 → rT w ≤ f 0 → PL w 1 V f
  | .leaf, _, _, _, _, _, _ => trivial
  | .inner z k v l r, V, f, hw, hp, hV, hf => by
    rw [rT_in] at hf
    refine ⟨fun _ => if k < 3 then 1 else 2 * rT l, fun _ => rT r, fun e he => ?_, PL_pg r hw.2.2.2.2.2.2.2 hp.2.2 hV (Nat.le_refl _), ?_⟩
    · obtain rfl : e = 0 := by omega
      exact hf
    · by_cases hk : k < 3
      · exact Or.inl ⟨hk, fun e _ => by show 1 ≤ (if k < 3 then 1 else 2 * rT l); rw [if_pos hk]; omega, 0, by omega, hV⟩
      · have hk4 : k = 4 := by have := hw.1; have := hp.1; omega
        have hl := PL_pg l (f := fun _ => rT l) hw.2.2.2.2.2.2.1 hp.2.1 hV (Nat.le_refl _)
        refine Or.inr (Or.inr (Or.inr ⟨hk4, rPg_Pl l hp.2.1 (hw.2.2.1 (by omega)), 0, fun _ => rT l, fun _ => rT l, V, fun _ h => h, hl, hl, fun e _ h => absurd h (Nat.not_lt_zero _), fun e _ _ => ⟨rfl, ?_, fun _ => ?_⟩⟩))
        · show rT l ≤ (if k < 3 then 1 else 2 * rT l)
          rw [if_neg hk]; omega
        · show 2 * rT l ≤ (if k < 3 then 1 else 2 * rT l)
          rw [if_neg hk]; omega
theorem pV_L : ∀ w : Rw, pV w ≤ rL w
  | .leaf => Nat.le_refl 0
  | .inner z k v l r => by
    have h1 := pV_L l
    have h2 := pV_L r
    have e : rL (Std.DTreeMap.Internal.Impl.inner z k v l r : Rw) = (if k < 3 then 1 else 0) + rL l + rL r := rfl
    rw [pV, e]
    by_cases h : k < 3
    · rw [if_pos h, if_pos h]; omega
    · rw [if_neg h, if_neg h]
      by_cases h3 : k = 3
      · rw [if_pos h3]; omega
      · rw [if_neg h3]; omega
theorem JW_pg {w : Rw} (h : rPage w) : JW w :=
  ⟨h.1, h.2.1.2, 1, fun _ => rT w, Nat.le_refl _, PL_pg w h.1 h.2.1.1 trivial (Nat.le_refl _), fun _ _ => h.2.2⟩
theorem JW_lay {w b : Rw} (h : JW w) (hN : rN w + rN b ≤ 1800) (hb9 : rPage b) : JW (lrow w b) ∧ rN (lrow w b) + pV (lrow w b) ≤ rN w + pV w + 120 ∧ rL (lrow w b) ≤ rL w + 60 := by
  have hRF := (JW_b h).2.2.2
  obtain ⟨h1, h2, L, f, h3, h4, h5⟩ := h
  have x1 := (lay_WF _ 0 w b (Nat.lt_succ_self _) hN h1 hb9.1 hb9.2.1.1).2
  have x2 := lay_Ad hN h1 hb9.1 hb9.2.1.1 h2 hb9.2.1.2
  have x3 := PL_lay hN h1 hb9.1 hb9.2.1.1 h3 h4
  have x4 := lay_N hN h1 hb9.1 hb9.2.1.1 hRF
  have x5 := hb9.2.2
  refine ⟨⟨x1, x2, L + 1, uqd f L (rT b), by omega, PL_mono _ (fun _ _ => trivial) (fun _ _ => Nat.le_refl _) x3, fun e he => ?_⟩, by omega, by omega⟩
  by_cases hE : e = L
  · rw [hE, uqd_s]; exact x5
  · rw [uqd_n (by omega)]
    exact h5 e (by omega)
theorem JW_ord : ∀ (n : Nat) (w : Rw), n ≤ 3 → ordK n w → JW w ∧ rN w + pV w ≤ 120 * (n + 1) ∧ rL w ≤ 60 * (n + 1)
  | 0, w, _, h => by
    have h1 := rN_T w h.1.1
    have h2 := rL_T w h.1.1
    have h3 := pV_L w
    have h4 := h.1.2.2
    exact ⟨JW_pg h.1, by omega, by omega⟩
  | n + 1, w, hn, ⟨w0, b, h1, h2, h3⟩ => by
    obtain ⟨a1, a2, a3⟩ := JW_ord n w0 (by omega) h1
    have hb9 := rN_T b h2.1.1
    have hb8 := h2.1.2.2
    obtain ⟨b1, b2, b3⟩ := JW_lay a1 (by omega) h2.1
    rw [h3]
    exact ⟨b1, by omega, by omega⟩
theorem JS_ok : JOK JS := by
  have hsk : ∀ w : Rw, JW w → rN w ≤ 900 → rL w ≤ 260 → skB w := fun w h h1 h2 => by
    obtain ⟨a1, a2, a3, a4⟩ := JW_b h
    exact ⟨h.1, h1, by omega, a3, a4⟩
  refine ⟨⟨⟨trivial, trivial, 1, fun _ => 0, Nat.le_refl _, trivial, fun _ _ => Nat.zero_le _⟩, Nat.zero_le _⟩, fun w h => ?_, fun w h _ => ?_, fun w b h hb9 _ => ?_, fun n w hn h => ?_⟩
  · have := (JW_b h.1).1
    have := h.2
    exact ⟨hsk w h.1 (by omega) (by omega), h.2⟩
  · have h2 := rL_T w h.1
    have h4 := h.2.2
    exact ⟨JW_pg h, by omega⟩
  · have h1 := (JW_b h.1).1
    have h2 := h.2
    have hb8 := rN_T b hb9.1
    have hb7 := hb9.2.2
    obtain ⟨b1, b2, b3⟩ := JW_lay h.1 (by omega) hb9
    exact ⟨hsk _ b1 (by omega) (by omega), fun h9 => ⟨b1, h9⟩⟩
  · obtain ⟨a1, a2, a3⟩ := JW_ord n w hn h
    exact ⟨hsk w a1 (by omega) (by omega), by omega⟩

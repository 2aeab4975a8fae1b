/-! what holds of all tags and words of rows, whatever is laid or tidied -/
def AL (P : Nat → Int → Prop) : Rw → Prop
  | .leaf => True
  | .inner _ k v l r => (k < 2 → P k v) ∧ AL P l ∧ AL P r
theorem AL_mono {P Q : Nat → Int → Prop} (h : ∀ k v, P k v → Q k v) : ∀ w : Rw, AL P w → AL Q w
  | .leaf, _ => trivial
  | .inner _ _ _ l r, ⟨a1, a2, a3⟩ => ⟨fun hk => h _ _ (a1 hk), AL_mono h l a2, AL_mono h r a3⟩
theorem AL_f {P : Nat → Int → Prop} {k k2 : Nat} {v v2 : Int} (h : k < 2 → P k v) : fK k v k2 v2 < 2 → P (fK k v k2 v2) (fV k v k2 v2) := by
  unfold fK fV
  intro h9
  by_cases c1 : k = 1 ∨ k = 2
  · by_cases c2 : k = 1 ∧ k2 = 1 ∧ v = v2
    · rw [if_pos c1, if_pos c2, if_pos (Or.inr c2)]
      have h8 := h (by omega)
      rw [c2.1] at h8
      exact h8
    · rw [if_pos c1, if_neg c2] at h9
      omega
  · rw [if_neg c1] at h9
    rw [if_neg c1, if_pos (Or.inl (by omega))]
    exact h h9
theorem AL_fus {P : Nat → Int → Prop} : ∀ w b : Rw, AL P w → AL P b → AL P (rfus w b)
  | .leaf, b, _, _ => by rw [rfus]; trivial
  | .inner _ _ _ _ _, .leaf, _, _ => by rw [rfus]; trivial
  | .inner z k v l r, .inner z2 k2 v2 l2 r2, ⟨a1, a2, a3⟩, ⟨b1, b2, b3⟩ => by
    rw [rfus]
    exact ⟨AL_f a1, AL_fus l l2 a2 b2, AL_fus r r2 a3 b3⟩
theorem AL_drop {P : Nat → Int → Prop} : ∀ (m : Nat) (w : Rw), AL P w → AL P (rdrop m w)
  | 0, _, h => h
  | _ + 1, .leaf, _ => trivial
  | m + 1, .inner _ _ _ _ r, ⟨_, _, a3⟩ => AL_drop m r a3
theorem AL_pre {P : Nat → Int → Prop} : ∀ (m : Nat) (w x : Rw), AL P w → AL P x → AL P (rpre m w x)
  | 0, _, _, _, h => h
  | _ + 1, .leaf, _, _, h => h
  | m + 1, .inner _ _ _ _ r, x, ⟨a1, a2, a3⟩, h => ⟨a1, a2, AL_pre m r x a3 h⟩
theorem AL_hd {P : Nat → Int → Prop} : ∀ w : Rw, AL P w → AL P (hd1 w)
  | .leaf, _ => trivial
  | .inner _ _ _ _ _, ⟨a1, a2, _⟩ => ⟨a1, a2, trivial⟩
theorem AL_set {P : Nat → Int → Prop} : ∀ w x : Rw, AL P w → AL P x → AL P (setR w x)
  | .leaf, _, _, h => h
  | .inner _ _ _ _ _, _, ⟨a1, a2, _⟩, h => ⟨a1, a2, h⟩
theorem AL_acc {P : Nat → Int → Prop} {w : Rw} {a n1 k : Nat} (h : AL P w) : ∀ e : Nat, AL P (facc w a n1 k e)
  | 0 => AL_hd _ (AL_drop _ w h)
  | e + 1 => AL_fus _ _ (AL_acc h e) (AL_hd _ (AL_drop _ w h))
theorem AL_frow {P : Nat → Int → Prop} {w : Rw} {a n1 n : Nat} (h : AL P w) : ∀ m j : Nat, AL P (frow w a n1 n j m)
  | 0, _ => trivial
  | m + 1, j => AL_set _ _ (AL_acc h _) (AL_frow h m (j + 1))
theorem AL_rep {P : Nat → Int → Prop} {x r : Rw} {z : Nat} {v : Int} (h1 : AL P x) (h2 : AL P r) : AL P (.inner z 4 v x r) := ⟨fun h => absurd h (by decide), h1, h2⟩
theorem AL_opt {P : Nat → Int → Prop} {x r : Rw} {z : Nat} {v : Int} (h1 : AL P x) (h2 : AL P r) : AL P (.inner z 3 v x r) := ⟨fun h => absurd h (by decide), h1, h2⟩
theorem AL_put {P : Nat → Int → Prop} {w : Rw} (a n1 n : Nat) (h : AL P w) : AL P (rput w a n1 n) := AL_pre a w _ h (AL_rep (AL_frow h _ _) (AL_drop _ w h))
theorem AL_tk {P : Nat → Int → Prop} {w x : Rw} (a b : Nat) (h : AL P w) (hx : AL P x) : AL P (rtk w a x b) := AL_pre a w _ h (AL_rep hx (AL_drop b w h))
theorem AL_lay {P : Nat → Int → Prop} {w b : Rw} (h18 : rN w + rN b ≤ 1800) (hw : rWF w) (hb : rWF b) (hp : rPg b) (h1 : AL P w) (h2 : AL P b) : AL P (lrow w b) := by
  have h9 := wk_ind (M := fun _ w b X Y => AL P w → AL P b → AL P X ∧ AL P Y)
    (fun _ _ _ => ⟨trivial, trivial⟩)
    (fun o z k v l r z2 k2 v2 l2 r2 X Y _ _ _ _ _ _ _ hM hA hB => ⟨trivial, AL_f hA.1, AL_fus l l2 hA.2.1 hB.2.1, (hM hA.2.2 hB.2.2).2⟩)
    (fun o z v l r z2 v2 l2 r2 X Y Xi _ _ _ _ _ _ _ hMi _ hM hA hB => ⟨trivial, AL_rep (hMi hA.2.1 hB.2.1).2 (hM hA.2.2 hB.2.2).2⟩)
    (fun o z k v l r b X Y _ _ _ hk _ _ _ hM hA hB => ⟨trivial, fun h => absurd h (by omega), AL_fus l b hA.2.1 hB, (hM hA.2.2 (AL_drop _ b hB)).2⟩)
    (fun o z2 v2 w l2 r2 X Y _ _ _ _ _ _ hM hA hB => ⟨trivial, AL_rep (AL_fus l2 w hB.2.1 hA) (hM (AL_drop _ w hA) hB.2.2).2⟩)
    (fun o z v l r b X Y _ _ _ _ _ hM hA hB => ⟨trivial, AL_opt hA.2.1 (hM hA.2.2 hB).2⟩)
    (fun z k v l r b X Y _ _ _ _ _ hM hA hB => ⟨⟨hA.1, hA.2.1, (hM hA.2.2 hB).1⟩, (hM hA.2.2 hB).2⟩)
    (fun o z k v l r b X Y _ _ _ _ _ _ hM hA hB => ⟨trivial, AL_opt ⟨hA.1, hA.2.1, (hM hA.2.2 hB).1⟩ (hM hA.2.2 hB).2⟩)
    (fun z2 k2 v2 w l2 r2 X Y _ _ _ _ hM hA hB => ⟨⟨hB.1, hB.2.1, (hM hA hB.2.2).1⟩, (hM hA hB.2.2).2⟩)
    (fun o z2 k2 v2 w l2 r2 X Y _ _ _ _ _ hM hA hB => ⟨trivial, AL_opt ⟨hB.1, hB.2.1, (hM hA hB.2.2).1⟩ (hM hA hB.2.2).2⟩)
    _ 0 w b (Nat.lt_succ_self _) h18 hw hb hp h1 h2
  exact h9.2
theorem AL_dropl {P : Nat → Int → Prop} {w : Rw} {k z k2 : Nat} {v : Int} {l r : Rw} (h : AL P w) (e : rdrop k w = .inner z k2 v l r) : AL P l := by
  have h1 := AL_drop k w h
  rw [e] at h1
  exact h1.2.1
theorem AL_ts1 {P : Nat → Int → Prop} {w u : Rw} (h : AL P w) (h1 : ts1 w u) : AL P u := by
  rcases h1 with ⟨k, za, va, la, ra, zb, vb, lb, rb, e1, e2, _, _, rfl⟩ | ⟨_, k, z, v, l, r, e1, _, _, _, rfl⟩ | ⟨_, _, k, z, v, l, r, e1, _, _, rfl⟩ | ⟨_, _, _, so, a, n, _, rfl⟩
  · exact AL_tk _ _ h (AL_fus _ _ (AL_dropl h e1) (AL_dropl h e2))
  · exact AL_tk _ _ h (AL_fus _ _ (AL_dropl h e1) (AL_drop _ w h))
  · exact AL_tk _ _ h (AL_fus _ _ (AL_dropl h e1) (AL_drop _ w h))
  · exact AL_put _ _ _ h
theorem AL_tSt {P : Nat → Int → Prop} : ∀ (n : Nat) (w u : Rw), AL P w → tSt n w u → AL P u
  | 0, w, u, h, e => by
    have e : u = w := e
    rw [e]; exact h
  | n + 1, w, u, h, ⟨x, h1, h2⟩ => AL_tSt n x u (AL_ts1 h h1) h2
theorem AL_tAl {P : Nat → Int → Prop} : ∀ (w x : Rw) (n : Nat), AL P w → tAl w x n → AL P x
  | .leaf, x, n, _, ⟨h1, _⟩ => by rw [h1]; trivial
  | .inner z k v l r, x, n, ⟨a1, a2, a3⟩, ⟨r2, n1, h1, h2⟩ => by
    have i1 := AL_tAl r r2 n1 a3 h1
    rcases h2 with ⟨a, e1, e2⟩ | ⟨a, lx, l2, n2, n3, e1, e2, e3, e4, e5⟩
    · rw [e1]
      exact ⟨a1, a2, i1⟩
    · rw [e4]
      exact ⟨fun h => absurd h (by omega), AL_tSt n3 lx l2 (AL_tAl l lx n2 a2 e1) e2, i1⟩
theorem AL_tdy {P : Nat → Int → Prop} {w u : Rw} {n : Nat} (h : AL P w) (h1 : tdy w u n) : AL P u := by
  obtain ⟨x, n1, n2, e1, e2, -, -⟩ := h1
  exact AL_tSt n2 x u (AL_tAl w x n1 h e1) e2
theorem AL_fSt {P : Nat → Int → Prop} : ∀ (t : List (Nat × Nat × Nat)) (w x : Rw), AL P w → fSt t w x → AL P x
  | [], w, x, h, e => by
    have e : x = w := e
    rw [e]; exact h
  | s :: t, w, x, h, ⟨_, h2⟩ => AL_fSt t _ x (AL_put _ _ _ h) h2

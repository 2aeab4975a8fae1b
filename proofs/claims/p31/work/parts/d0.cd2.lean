
/-! which exception: 0 none, 1 the first ground fails, 2 the second does -/
noncomputable def cd2 (A B : Prop) : Int := @ite _ A (Classical.propDecidable A) (@ite _ B (Classical.propDecidable B) 0 2) 1
theorem cd2_1 {A B : Prop} (h : ¬ A) : cd2 A B = 1 := if_neg h
theorem cd2_2 {A B : Prop} (h : A) (h2 : ¬ B) : cd2 A B = 2 := (if_pos h).trans (if_neg h2)
theorem cd2_0 {A B : Prop} (h : A) (h2 : B) : cd2 A B = 0 := (if_pos h).trans (if_pos h2)
theorem cd2_c {A B : Prop} : (A ∧ B ∧ cd2 A B = 0) ∨ (¬ A ∧ cd2 A B = 1) ∨ (A ∧ ¬ B ∧ cd2 A B = 2) := by
  by_cases h : A
  · by_cases h2 : B
    · exact Or.inl ⟨h, h2, cd2_0 h h2⟩
    · exact Or.inr (Or.inr ⟨h, h2, cd2_2 h h2⟩)
  · exact Or.inr (Or.inl ⟨h, cd2_1 h⟩)
theorem cd2_z {A B : Prop} {cd : Int} (e : cd = cd2 A B) (h : iZ cd = 0) : cd = 0 := by
  rcases cd2_c (A := A) (B := B) with ⟨-, -, h1⟩ | ⟨-, h1⟩ | ⟨-, -, h1⟩
  · exact e.trans h1
  · rw [e, h1] at h; exact absurd h (by decide +kernel)
  · rw [e, h1] at h; exact absurd h (by decide +kernel)
theorem cd2_of {A B : Prop} (h : cd2 A B = 0) : A ∧ B := by
  rcases cd2_c (A := A) (B := B) with ⟨a, b, -⟩ | ⟨-, h1⟩ | ⟨-, -, h1⟩
  · exact ⟨a, b⟩
  · rw [h1] at h; exact absurd h (by decide)
  · rw [h1] at h; exact absurd h (by decide)
theorem rWF_0 : ∀ w : Rw, rWF w → rW0 w
  | .leaf, _ => trivial
  | .inner _ _ _ l r, ⟨f1, f2, f3, f4, f5, f6, f7, f8⟩ => ⟨⟨f1, f2, f4, f5, f6⟩, rWF_0 l f7, rWF_0 r f8⟩

/-! the class: its cells, one behind another: the object, then what its constructor makes, in that order -/
def sF0 (h0 : Nat) (f : Nat → Int32) : List Value := [.ref (h0 + 1), .ref (h0 + 5), .int (f 2), .ref (h0 + 6), .ref (h0 + 12), .int (f 5), .int (f 6), .ref (h0 + 18), .ref (h0 + 38), .ref (h0 + 41), .ref (h0 + 45), .ref (h0 + 48), .ref (h0 + 110), .ref (h0 + 111), .ref (h0 + 112)]
def sF1 (h0 : Nat) (f : Nat → Int32) : List Value := [.ref (h0 + 2), .int (f 1), .ref (h0 + 3), .int (f 3), .ref (h0 + 4), .int (f 5), .int (f 6), .int (f 7)]
def sF18 (h0 : Nat) (f : Nat → Int32) : List Value := [.ref (h0 + 19), .ref (h0 + 36), .ref (h0 + 37), .int (f 3), .int (f 4)]
def sF38 (h0 : Nat) (f : Nat → Int32) : List Value := [.ref (h0 + 39), .ref (h0 + 40), .int (f 2), .int (f 3), .int (f 4), .int (f 5)]
def sF41 (h0 : Nat) (f : Nat → Int32) : List Value := [.ref (h0 + 42), .ref (h0 + 43), .ref (h0 + 44), .int (f 3), .int (f 4), .int (f 5), .int (f 6)]
def sF45 (h0 : Nat) (f : Nat → Int32) : List Value := [.ref (h0 + 46), .ref (h0 + 47)]
def sF48 (h0 : Nat) (f : Nat → Int32) : List Value := [.ref (h0 + 49), .ref (h0 + 50), .ref (h0 + 51), .ref (h0 + 52), .ref (h0 + 77), .ref (h0 + 78), .int (f 6), .int (f 7), .ref (h0 + 79)]
def sRF (h0 q : Nat) (f : Nat → Int32) : List Value := [.ref (h0 + (q + 1)), .ref (h0 + (q + 2)), .ref (h0 + (q + 3)), .ref (h0 + (q + 4)), .ref (h0 + (q + 5)), .int (f 5), .int (f 6), .int (f 7)]
def sLF (h0 b : Nat) (f : Nat → Int32) : List Value := [.ref (h0 + (b + 1)), .ref (h0 + (b + 2)), .int (f 2), .ref (h0 + (b + 3)), .ref (h0 + (b + 9)), .int (f 5), .ref (h0 + (b + 10)), .ref (h0 + (b + 14))]
def sWF (h0 b : Nat) (f : Nat → Int32) : List Value := [.int (f 0), .int (f 1), .ref (h0 + (b + 11)), .ref (h0 + (b + 12)), .ref (h0 + (b + 13))]
def sRow (cI : ClassId) (h0 q rm r : Nat) (f : Nat → Int32) : va_E := if r = 0 then .inr (4, sRF h0 q f) else .inl (cI, if r = 3 then rm + 1 else rm, .inl f)
def sLeaf (cI : ClassId) (h0 b r : Nat) (f : Nat → Int32) : va_E := if r < 3 then (if r = 0 then .inr (1, sLF h0 b f) else .inl (cI, 60, .inl f)) else if r < 9 then sRow cI h0 (b + 3) 96 (r - 3) f else if r < 11 then (if r = 9 then .inl (cI, 180, .inl f) else .inr (7, sWF h0 b f)) else .inl (cI, if r = 11 then 60 else if r = 14 then 61 else 1100, .inl f)
def sE (cI cZ cII cIII : ClassId) (h0 : Nat) (k : Nat) (f : Nat → Int32) : va_E := if k < 43 then (if k < 18 then (if k < 4 then (if k < 2 then (if k < 1 then (.inr (9, sF0 h0 f)) else (.inr (5, sF1 h0 f))) else (if k < 3 then (.inl (cI, 400, .inl f)) else (.inl (cI, 200, .inl f)))) else (if k < 6 then (if k < 5 then (.inl (cI, 60, .inl f)) else (.inl (cZ, 8, .inr (.inr (.inr (.inr (fun i => if i < 8 then some (h0 + (113 + i * 15)) else none))))))) else (if k < 12 then (sRow cI h0 6 1100 (k - 6) f) else (sRow cI h0 12 1100 (k - 12) f)))) else (if k < 38 then (if k < 20 then (if k < 19 then (.inr (3, sF18 h0 f)) else (.inl (cII, 16, .inr (.inr (.inr (.inr (fun i => if i < 16 then some (h0 + (20 + i)) else none))))))) else (if k < 36 then (.inl (cI, 1100, .inl f)) else (.inl (cI, 16, .inl f)))) else (if k < 41 then (if k < 39 then (.inr (6, sF38 h0 f)) else (.inl (cI, 1101, .inl f))) else (if k < 42 then (.inr (0, sF41 h0 f)) else (.inl (cI, 106797, .inl f)))))) else (if k < 52 then (if k < 48 then (if k < 46 then (if k < 45 then (.inl (cI, 1101, .inl f)) else (.inr (8, sF45 h0 f))) else (if k < 47 then (.inl (cI, 67161, .inl f)) else (.inl (cI, 1101, .inl f)))) else (if k < 50 then (if k < 49 then (.inr (2, sF48 h0 f)) else (.inl (cI, 4, .inl f))) else (if k < 51 then (.inl (cIII, 5, .inr (.inr (.inr (.inr (fun i => if i < 5 then some (h0 + (80 + i * 6)) else none)))))) else (.inl (cI, 5, .inl f))))) else (if k < 80 then (if k < 77 then (if k < 53 then (.inl (cII, 24, .inr (.inr (.inr (.inr (fun i => if i < 24 then some (h0 + (53 + i)) else none)))))) else (.inl (cI, 1100, .inl f))) else (if k < 79 then (.inl (cI, 24, .inl f)) else (.inl (cI, 4, .inl f)))) else (if k < 111 then (if k < 110 then (sRow cI h0 (80 + (k - 80) / 6 * 6) 1100 ((k - 80) % 6) f) else (.inl (cI, 60, .inl f))) else (if k < 112 then (.inl (cI, 200, .inl f)) else (if k < 113 then (.inl (cI, 3, .inl f)) else (sLeaf cI h0 (113 + (k - 113) / 15 * 15) ((k - 113) % 15) f))))))
def sT (cI cZ cII cIII : ClassId) : List (ClassId × FieldType) := [(cI, .int), (cZ, .object "PageSkeleton$Leaf"), (cII, .array .int), (cIII, .object "PageSkeleton$Row")]
/-- where a row's six cells begin, and how much room it has -/
def rowB (q rm : Nat) : Prop := (q = 6 ∧ rm = 1100) ∨ (q = 12 ∧ rm = 1100) ∨ (∃ i, i < 5 ∧ q = 80 + i * 6 ∧ rm = 1100) ∨ (∃ i, i < 8 ∧ q = 116 + i * 15 ∧ rm = 96)
theorem rowB_6 : rowB 6 1100 := Or.inl ⟨rfl, rfl⟩
theorem rowB_12 : rowB 12 1100 := Or.inr (Or.inl ⟨rfl, rfl⟩)
theorem rowB_80 {i : Nat} (h : i < 5) : rowB (80 + i * 6) 1100 := Or.inr (Or.inr (Or.inl ⟨i, h, rfl, rfl⟩))
theorem rowB_L {b : Nat} {i : Nat} (h : i < 8) (hb : b = 113 + i * 15) : rowB (b + 3) 96 := Or.inr (Or.inr (Or.inr ⟨i, h, by (first | ((try clear h); omega) | omega), rfl⟩))
theorem rowB_b {q rm : Nat} (h : rowB q rm) : 6 ≤ q ∧ q + 6 ≤ 233 ∧ (rm = 1100 ∨ rm = 96) := by
  rcases h with ⟨h1, h2⟩ | ⟨h1, h2⟩ | ⟨i, h1, h2, h3⟩ | ⟨i, h1, h2, h3⟩ <;> omega
section SE
variable {cI cZ cII cIII : ClassId} {h0 : Nat}
theorem sE_row {q rm r : Nat} (h : rowB q rm) (hr : r < 6) (f : Nat → Int32) : sE cI cZ cII cIII h0 (q + r) f = sRow cI h0 q rm r f := by
  rcases h with ⟨rfl, rfl⟩ | ⟨rfl, rfl⟩ | ⟨i, h1, rfl, rfl⟩ | ⟨i, h1, rfl, rfl⟩
  · unfold sE; rw [if_pos (by (first | ((try clear h1); (try clear i); omega) | omega)), if_pos (by (first | ((try clear h1); (try clear i); omega) | omega)), if_neg (by (first | ((try clear h1); (try clear i); omega) | omega)), if_neg (by (first | ((try clear h1); (try clear i); omega) | omega)), if_pos (by (first | ((try clear h1); (try clear i); omega) | omega)), show 6 + r - 6 = r by (first | ((try clear h1); (try clear i); omega) | omega)]
  · unfold sE; rw [if_pos (by (first | ((try clear h1); (try clear i); omega) | omega)), if_pos (by (first | ((try clear h1); (try clear i); omega) | omega)), if_neg (by (first | ((try clear h1); (try clear i); omega) | omega)), if_neg (by (first | ((try clear h1); (try clear i); omega) | omega)), if_neg (by (first | ((try clear h1); (try clear i); omega) | omega)), show 12 + r - 12 = r by (first | ((try clear h1); (try clear i); omega) | omega)]
  · unfold sE; rw [if_neg (by omega), if_neg (by omega), if_neg (by omega), if_pos (by omega), if_pos (by omega), show (80 + i * 6 + r - 80) / 6 = i by omega, show (80 + i * 6 + r - 80) % 6 = r by omega]
  · unfold sE
    rw [if_neg (by omega), if_neg (by omega), if_neg (by omega), if_neg (by omega), if_neg (by omega), if_neg (by omega), show (116 + i * 15 + r - 113) / 15 = i by omega, show (116 + i * 15 + r - 113) % 15 = r + 3 by omega]
    unfold sLeaf
    rw [if_neg (by (first | ((try clear h1); omega) | omega)), if_pos (by (first | ((try clear h1); omega) | omega)), show r + 3 - 3 = r by (first | ((try clear h1); omega) | omega), show 113 + i * 15 + 3 = 116 + i * 15 by (first | ((try clear h1); omega) | omega)]
theorem sE_rowO {q rm : Nat} (h : rowB q rm) (f : Nat → Int32) : sE cI cZ cII cIII h0 q f = .inr (4, sRF h0 q f) := sE_row (r := 0) h (by decide) f
theorem sE_rowA {q rm r : Nat} (h : rowB q rm) (h1 : r = 1 ∨ r = 2 ∨ r = 4 ∨ r = 5) (f : Nat → Int32) : sE cI cZ cII cIII h0 (q + r) f = .inl (cI, rm, .inl f) := by
  rw [sE_row h (by omega)]
  unfold sRow
  rw [if_neg (by omega), if_neg (by omega)]
theorem sE_row3 {q rm : Nat} (h : rowB q rm) (f : Nat → Int32) : sE cI cZ cII cIII h0 (q + 3) f = .inl (cI, rm + 1, .inl f) := sE_row (r := 3) h (by decide) f
/-- where a leaf's fifteen cells begin -/
theorem sE_leaf {i b r : Nat} (h : i < 8) (hb : b = 113 + i * 15) (hr : r < 15) (f : Nat → Int32) : sE cI cZ cII cIII h0 (b + r) f = sLeaf cI h0 b r f := by
  subst hb
  unfold sE
  rw [if_neg (by omega), if_neg (by omega), if_neg (by omega), if_neg (by omega), if_neg (by omega), if_neg (by omega), show (113 + i * 15 + r - 113) / 15 = i by omega, show (113 + i * 15 + r - 113) % 15 = r by omega]
theorem sE_leafO {i b : Nat} (h : i < 8) (hb : b = 113 + i * 15) (f : Nat → Int32) : sE cI cZ cII cIII h0 b f = .inr (1, sLF h0 b f) := sE_leaf (r := 0) h hb (by decide) f
theorem sE_leafA {i b : Nat} (r n : Nat) (h : i < 8) (hb : b = 113 + i * 15) (hr : (r = 1 ∧ n = 60) ∨ (r = 2 ∧ n = 60) ∨ (r = 9 ∧ n = 180) ∨ (r = 11 ∧ n = 60) ∨ (r = 12 ∧ n = 1100) ∨ (r = 13 ∧ n = 1100) ∨ (r = 14 ∧ n = 61)) (f : Nat → Int32) : sE cI cZ cII cIII h0 (b + r) f = .inl (cI, n, .inl f) := by
  rw [sE_leaf h hb (by (first | ((try clear h); omega) | omega))]
  rcases hr with ⟨rfl, rfl⟩ | ⟨rfl, rfl⟩ | ⟨rfl, rfl⟩ | ⟨rfl, rfl⟩ | ⟨rfl, rfl⟩ | ⟨rfl, rfl⟩ | ⟨rfl, rfl⟩ <;> rfl
theorem sE_walk {i b : Nat} (h : i < 8) (hb : b = 113 + i * 15) (f : Nat → Int32) : sE cI cZ cII cIII h0 (b + 10) f = .inr (7, sWF h0 b f) := sE_leaf (r := 10) h hb (by decide) f
theorem sE_codes {i : Nat} (h : i < 16) (f : Nat → Int32) : sE cI cZ cII cIII h0 (20 + i) f = .inl (cI, 1100, .inl f) := by unfold sE; rw [if_pos (by omega), if_neg (by omega), if_pos (by omega), if_neg (by omega), if_pos (by omega)]
theorem sE_ends {i : Nat} (h : i < 24) (f : Nat → Int32) : sE cI cZ cII cIII h0 (53 + i) f = .inl (cI, 1100, .inl f) := by unfold sE; rw [if_neg (by omega), if_neg (by omega), if_pos (by omega), if_pos (by omega), if_neg (by omega)]
theorem sE_0 (f : Nat → Int32) : sE cI cZ cII cIII h0 0 f = .inr (9, sF0 h0 f) := rfl
theorem sE_1 (f : Nat → Int32) : sE cI cZ cII cIII h0 1 f = .inr (5, sF1 h0 f) := rfl
theorem sE_2 (f : Nat → Int32) : sE cI cZ cII cIII h0 2 f = .inl (cI, 400, .inl f) := rfl
theorem sE_3 (f : Nat → Int32) : sE cI cZ cII cIII h0 3 f = .inl (cI, 200, .inl f) := rfl
theorem sE_4 (f : Nat → Int32) : sE cI cZ cII cIII h0 4 f = .inl (cI, 60, .inl f) := rfl
theorem sE_5 (f : Nat → Int32) : sE cI cZ cII cIII h0 5 f = .inl (cZ, 8, .inr (.inr (.inr (.inr (fun i => if i < 8 then some (h0 + (113 + i * 15)) else none))))) := rfl
theorem sE_18 (f : Nat → Int32) : sE cI cZ cII cIII h0 18 f = .inr (3, sF18 h0 f) := rfl
theorem sE_19 (f : Nat → Int32) : sE cI cZ cII cIII h0 19 f = .inl (cII, 16, .inr (.inr (.inr (.inr (fun i => if i < 16 then some (h0 + (20 + i)) else none))))) := rfl
theorem sE_36 (f : Nat → Int32) : sE cI cZ cII cIII h0 36 f = .inl (cI, 16, .inl f) := rfl
theorem sE_37 (f : Nat → Int32) : sE cI cZ cII cIII h0 37 f = .inl (cI, 16, .inl f) := rfl
theorem sE_38 (f : Nat → Int32) : sE cI cZ cII cIII h0 38 f = .inr (6, sF38 h0 f) := rfl
theorem sE_39 (f : Nat → Int32) : sE cI cZ cII cIII h0 39 f = .inl (cI, 1101, .inl f) := rfl
theorem sE_40 (f : Nat → Int32) : sE cI cZ cII cIII h0 40 f = .inl (cI, 1101, .inl f) := rfl
theorem sE_41 (f : Nat → Int32) : sE cI cZ cII cIII h0 41 f = .inr (0, sF41 h0 f) := rfl
theorem sE_42 (f : Nat → Int32) : sE cI cZ cII cIII h0 42 f = .inl (cI, 106797, .inl f) := rfl
theorem sE_43 (f : Nat → Int32) : sE cI cZ cII cIII h0 43 f = .inl (cI, 1101, .inl f) := rfl
theorem sE_44 (f : Nat → Int32) : sE cI cZ cII cIII h0 44 f = .inl (cI, 1101, .inl f) := rfl
theorem sE_45 (f : Nat → Int32) : sE cI cZ cII cIII h0 45 f = .inr (8, sF45 h0 f) := rfl
theorem sE_46 (f : Nat → Int32) : sE cI cZ cII cIII h0 46 f = .inl (cI, 67161, .inl f) := rfl
theorem sE_47 (f : Nat → Int32) : sE cI cZ cII cIII h0 47 f = .inl (cI, 1101, .inl f) := rfl
theorem sE_48 (f : Nat → Int32) : sE cI cZ cII cIII h0 48 f = .inr (2, sF48 h0 f) := rfl
theorem sE_49 (f : Nat → Int32) : sE cI cZ cII cIII h0 49 f = .inl (cI, 4, .inl f) := rfl
theorem sE_50 (f : Nat → Int32) : sE cI cZ cII cIII h0 50 f = .inl (cIII, 5, .inr (.inr (.inr (.inr (fun i => if i < 5 then some (h0 + (80 + i * 6)) else none))))) := rfl
theorem sE_51 (f : Nat → Int32) : sE cI cZ cII cIII h0 51 f = .inl (cI, 5, .inl f) := rfl
theorem sE_52 (f : Nat → Int32) : sE cI cZ cII cIII h0 52 f = .inl (cII, 24, .inr (.inr (.inr (.inr (fun i => if i < 24 then some (h0 + (53 + i)) else none))))) := rfl
theorem sE_77 (f : Nat → Int32) : sE cI cZ cII cIII h0 77 f = .inl (cI, 24, .inl f) := rfl
theorem sE_78 (f : Nat → Int32) : sE cI cZ cII cIII h0 78 f = .inl (cI, 24, .inl f) := rfl
theorem sE_79 (f : Nat → Int32) : sE cI cZ cII cIII h0 79 f = .inl (cI, 4, .inl f) := rfl
theorem sE_110 (f : Nat → Int32) : sE cI cZ cII cIII h0 110 f = .inl (cI, 60, .inl f) := rfl
theorem sE_111 (f : Nat → Int32) : sE cI cZ cII cIII h0 111 f = .inl (cI, 200, .inl f) := rfl
theorem sE_112 (f : Nat → Int32) : sE cI cZ cII cIII h0 112 f = .inl (cI, 3, .inl f) := rfl
end SE

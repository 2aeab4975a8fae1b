set_option maxRecDepth 100000 in
theorem k80 : (Cond.fieldLink "PageSkeleton$Layer" (48 : Nat) "PageSkeleton$Row" "code" "[I") ∈ wsG := wsG_a1 80 rfl rfl
set_option maxRecDepth 100000 in
theorem k85 : (Cond.fieldLink "PageSkeleton$Layer" (51 : Nat) "PageSkeleton$Row" "mate" "[I") ∈ wsG := wsG_a1 85 rfl rfl
set_option maxRecDepth 100000 in
theorem k94 : (Cond.fieldLink "PageSkeleton$Layer" (35 : Nat) "PageSkeleton$Row" "length" "I") ∈ wsG := wsG_a1 94 rfl rfl
theorem dX0_findLevels_0 : decode cX0_findLevels 0 = .ok (.iconst 0, 1) := by decide +kernel
theorem dX0_findLevels_1 : decode cX0_findLevels 1 = .ok (.istore_n 3, 1) := by decide +kernel
theorem dX0_findLevels_2 : decode cX0_findLevels 2 = .ok (.iconst 0, 1) := by decide +kernel
theorem dX0_findLevels_3 : decode cX0_findLevels 3 = .ok (.istore 4, 2) := by decide +kernel
theorem dX0_findLevels_5 : decode cX0_findLevels 5 = .ok (.iconst 0, 1) := by decide +kernel
theorem dX0_findLevels_6 : decode cX0_findLevels 6 = .ok (.istore 5, 2) := by decide +kernel
theorem dX0_findLevels_8 : decode cX0_findLevels 8 = .ok (.iload 5, 2) := by decide +kernel
theorem dX0_findLevels_10 : decode cX0_findLevels 10 = .ok (.aload_n 1, 1) := by decide +kernel
theorem dX0_findLevels_11 : decode cX0_findLevels 11 = .ok (.getfield 35, 3) := by decide +kernel
theorem dX0_findLevels_14 : decode cX0_findLevels 14 = .ok (.if_icmp .ge 116, 3) := by decide +kernel
theorem dX0_findLevels_17 : decode cX0_findLevels 17 = .ok (.aload_n 2, 1) := by decide +kernel
theorem dX0_findLevels_18 : decode cX0_findLevels 18 = .ok (.iload 5, 2) := by decide +kernel
theorem dX0_findLevels_20 : decode cX0_findLevels 20 = .ok (.iload 4, 2) := by decide +kernel
theorem dX0_findLevels_22 : decode cX0_findLevels 22 = .ok (.ifCond .ne 7, 3) := by decide +kernel
theorem dX0_findLevels_25 : decode cX0_findLevels 25 = .ok (.iload_n 3, 1) := by decide +kernel
theorem dX0_findLevels_26 : decode cX0_findLevels 26 = .ok (.goto 4, 3) := by decide +kernel
theorem dX0_findLevels_29 : decode cX0_findLevels 29 = .ok (.iconst (-1), 1) := by decide +kernel
theorem dX0_findLevels_30 : decode cX0_findLevels 30 = .ok (.iastore, 1) := by decide +kernel
theorem dX0_findLevels_31 : decode cX0_findLevels 31 = .ok (.aload_n 1, 1) := by decide +kernel
theorem dX0_findLevels_32 : decode cX0_findLevels 32 = .ok (.getfield 48, 3) := by decide +kernel
theorem dX0_findLevels_35 : decode cX0_findLevels 35 = .ok (.iload 5, 2) := by decide +kernel
theorem dX0_findLevels_37 : decode cX0_findLevels 37 = .ok (.iaload, 1) := by decide +kernel
theorem dX0_findLevels_38 : decode cX0_findLevels 38 = .ok (.sipush 515, 3) := by decide +kernel
theorem dX0_findLevels_41 : decode cX0_findLevels 41 = .ok (.if_icmp .ne 18, 3) := by decide +kernel
theorem dX0_findLevels_44 : decode cX0_findLevels 44 = .ok (.aload_n 1, 1) := by decide +kernel
theorem dX0_findLevels_45 : decode cX0_findLevels 45 = .ok (.getfield 48, 3) := by decide +kernel
theorem dX0_findLevels_48 : decode cX0_findLevels 48 = .ok (.aload_n 1, 1) := by decide +kernel
theorem dX0_findLevels_49 : decode cX0_findLevels 49 = .ok (.getfield 51, 3) := by decide +kernel
theorem dX0_findLevels_52 : decode cX0_findLevels 52 = .ok (.iload 5, 2) := by decide +kernel
theorem dX0_findLevels_54 : decode cX0_findLevels 54 = .ok (.iaload, 1) := by decide +kernel
theorem dX0_findLevels_55 : decode cX0_findLevels 55 = .ok (.iaload, 1) := by decide +kernel
theorem dX0_findLevels_56 : decode cX0_findLevels 56 = .ok (.goto 10, 3) := by decide +kernel
theorem dX0_findLevels_59 : decode cX0_findLevels 59 = .ok (.aload_n 1, 1) := by decide +kernel
theorem dX0_findLevels_60 : decode cX0_findLevels 60 = .ok (.getfield 48, 3) := by decide +kernel
theorem dX0_findLevels_63 : decode cX0_findLevels 63 = .ok (.iload 5, 2) := by decide +kernel
theorem dX0_findLevels_65 : decode cX0_findLevels 65 = .ok (.iaload, 1) := by decide +kernel
theorem dX0_findLevels_66 : decode cX0_findLevels 66 = .ok (.istore 6, 2) := by decide +kernel
theorem dX0_findLevels_68 : decode cX0_findLevels 68 = .ok (.aload_n 1, 1) := by decide +kernel
theorem dX0_findLevels_69 : decode cX0_findLevels 69 = .ok (.getfield 48, 3) := by decide +kernel
theorem dX0_findLevels_72 : decode cX0_findLevels 72 = .ok (.iload 5, 2) := by decide +kernel
theorem dX0_findLevels_74 : decode cX0_findLevels 74 = .ok (.iaload, 1) := by decide +kernel
theorem dX0_findLevels_75 : decode cX0_findLevels 75 = .ok (.sipush 515, 3) := by decide +kernel
theorem dX0_findLevels_78 : decode cX0_findLevels 78 = .ok (.if_icmp .ne 7, 3) := by decide +kernel
theorem dX0_findLevels_81 : decode cX0_findLevels 81 = .ok (.iconst (-1), 1) := by decide +kernel
theorem dX0_findLevels_82 : decode cX0_findLevels 82 = .ok (.goto 4, 3) := by decide +kernel
theorem dX0_findLevels_85 : decode cX0_findLevels 85 = .ok (.iconst 1, 1) := by decide +kernel
theorem dX0_findLevels_86 : decode cX0_findLevels 86 = .ok (.istore 7, 2) := by decide +kernel
theorem dX0_findLevels_88 : decode cX0_findLevels 88 = .ok (.iload_n 3, 1) := by decide +kernel
theorem dX0_findLevels_89 : decode cX0_findLevels 89 = .ok (.iload 6, 2) := by decide +kernel
theorem dX0_findLevels_91 : decode cX0_findLevels 91 = .ok (.sipush 514, 3) := by decide +kernel
theorem dX0_findLevels_94 : decode cX0_findLevels 94 = .ok (.if_icmp .ne 8, 3) := by decide +kernel
theorem dX0_findLevels_97 : decode cX0_findLevels 97 = .ok (.iload 7, 2) := by decide +kernel
theorem dX0_findLevels_99 : decode cX0_findLevels 99 = .ok (.goto 4, 3) := by decide +kernel
theorem dX0_findLevels_102 : decode cX0_findLevels 102 = .ok (.iconst 0, 1) := by decide +kernel
theorem dX0_findLevels_103 : decode cX0_findLevels 103 = .ok (.iadd, 1) := by decide +kernel
theorem dX0_findLevels_104 : decode cX0_findLevels 104 = .ok (.istore_n 3, 1) := by decide +kernel
theorem dX0_findLevels_105 : decode cX0_findLevels 105 = .ok (.iload 4, 2) := by decide +kernel
theorem dX0_findLevels_107 : decode cX0_findLevels 107 = .ok (.iload 6, 2) := by decide +kernel
theorem dX0_findLevels_109 : decode cX0_findLevels 109 = .ok (.sipush 513, 3) := by decide +kernel
theorem dX0_findLevels_112 : decode cX0_findLevels 112 = .ok (.if_icmp .ne 8, 3) := by decide +kernel
theorem dX0_findLevels_115 : decode cX0_findLevels 115 = .ok (.iload 7, 2) := by decide +kernel
theorem dX0_findLevels_117 : decode cX0_findLevels 117 = .ok (.goto 4, 3) := by decide +kernel
theorem dX0_findLevels_120 : decode cX0_findLevels 120 = .ok (.iconst 0, 1) := by decide +kernel
theorem dX0_findLevels_121 : decode cX0_findLevels 121 = .ok (.iadd, 1) := by decide +kernel
theorem dX0_findLevels_122 : decode cX0_findLevels 122 = .ok (.istore 4, 2) := by decide +kernel
theorem dX0_findLevels_124 : decode cX0_findLevels 124 = .ok (.iinc 5 1, 3) := by decide +kernel
theorem dX0_findLevels_127 : decode cX0_findLevels 127 = .ok (.goto (-119), 3) := by decide +kernel
theorem dX0_findLevels_130 : decode cX0_findLevels 130 = .ok (.aload_n 2, 1) := by decide +kernel
theorem dX0_findLevels_131 : decode cX0_findLevels 131 = .ok (.aload_n 1, 1) := by decide +kernel
theorem dX0_findLevels_132 : decode cX0_findLevels 132 = .ok (.getfield 35, 3) := by decide +kernel
theorem dX0_findLevels_135 : decode cX0_findLevels 135 = .ok (.iconst 0, 1) := by decide +kernel
theorem dX0_findLevels_136 : decode cX0_findLevels 136 = .ok (.iastore, 1) := by decide +kernel
theorem dX0_findLevels_137 : decode cX0_findLevels 137 = .ok (.return_, 1) := by decide +kernel
theorem dX0_packed_0 : decode cX0_packed 0 = .ok (.iload_n 0, 1) := by decide +kernel
theorem dX0_packed_1 : decode cX0_packed 1 = .ok (.iload_n 2, 1) := by decide +kernel
theorem dX0_packed_2 : decode cX0_packed 2 = .ok (.iconst 4, 1) := by decide +kernel
theorem dX0_packed_3 : decode cX0_packed 3 = .ok (.ishr, 1) := by decide +kernel
theorem dX0_packed_4 : decode cX0_packed 4 = .ok (.iadd, 1) := by decide +kernel
theorem dX0_packed_5 : decode cX0_packed 5 = .ok (.bipush 16, 2) := by decide +kernel
theorem dX0_packed_7 : decode cX0_packed 7 = .ok (.imul, 1) := by decide +kernel
theorem dX0_packed_8 : decode cX0_packed 8 = .ok (.iload_n 1, 1) := by decide +kernel
theorem dX0_packed_9 : decode cX0_packed 9 = .ok (.iconst 2, 1) := by decide +kernel
theorem dX0_packed_10 : decode cX0_packed 10 = .ok (.imul, 1) := by decide +kernel
theorem dX0_packed_11 : decode cX0_packed 11 = .ok (.iadd, 1) := by decide +kernel
theorem dX0_packed_12 : decode cX0_packed 12 = .ok (.iload_n 3, 1) := by decide +kernel
theorem dX0_packed_13 : decode cX0_packed 13 = .ok (.ifCond .eq 9, 3) := by decide +kernel
theorem dX0_packed_16 : decode cX0_packed 16 = .ok (.iload_n 2, 1) := by decide +kernel
theorem dX0_packed_17 : decode cX0_packed 17 = .ok (.iconst 1, 1) := by decide +kernel
theorem dX0_packed_18 : decode cX0_packed 18 = .ok (.iand, 1) := by decide +kernel
theorem dX0_packed_19 : decode cX0_packed 19 = .ok (.goto 4, 3) := by decide +kernel
theorem dX0_packed_22 : decode cX0_packed 22 = .ok (.iconst 0, 1) := by decide +kernel
theorem dX0_packed_23 : decode cX0_packed 23 = .ok (.iadd, 1) := by decide +kernel
theorem dX0_packed_24 : decode cX0_packed 24 = .ok (.ireturn, 1) := by decide +kernel
/-! laying: how many options stand round a place, what is laid against what -/
theorem iZ_bv {x : Int} (h0 : 0 ≤ x) (h1 : x < 2147483648) : (iZ x).toBitVec.toNat = x.toNat := by
  show (BitVec.ofInt 32 x).toNat = x.toNat
  rw [BitVec.toNat_ofInt]
  congr 1
  exact Int.emod_eq_of_lt h0 (by show x < 4294967296; show_term (have zq0 : True := trivial; omega))
theorem and_m {v : Int} (n : Nat) (hn : n < 31) (h0 : 0 ≤ v) (h1 : v < 2147483648) : iZ v &&& iZ (((2 ^ n - 1 : Nat)) : Int) = iZ (v % (2 ^ n : Nat)) := by
  have hp : 2 ^ n < 2 ^ 31 := Nat.pow_lt_pow_right (by decide) hn
  have hp0 : 0 < 2 ^ n := Nat.pow_pos (by decide)
  have h31 : (2 : Nat) ^ 31 = 2147483648 := by decide
  have hm0 : 0 ≤ v % (2 ^ n : Nat) := Int.emod_nonneg _ (by show_term (have zq1 : True := trivial; omega))
  have hm1 : v % (2 ^ n : Nat) < (2 ^ n : Nat) := Int.emod_lt_of_pos _ (by show_term (have zq2 : True := trivial; omega))
  apply Int32.toBitVec_inj.mp
  apply BitVec.eq_of_toNat_eq
  show ((iZ v).toBitVec &&& (iZ (((2 ^ n - 1 : Nat)) : Int)).toBitVec).toNat = _
  rw [BitVec.toNat_and, iZ_bv h0 h1, iZ_bv (by show_term (have zq3 : True := trivial; omega)) (by show_term (have zq4 : True := trivial; omega)), iZ_bv hm0 (by show_term (have zq5 : True := trivial; omega)), Int.toNat_natCast, Nat.and_two_pow_sub_one_eq_mod]
  obtain ⟨a, rfl⟩ := Int.eq_ofNat_of_zero_le h0
  exact rfl
theorem shr_m {z v : Int} (n : Nat) (hz : inR z) (hv : inR v) (e : (iZ z).toBitVec = (iZ v).toBitVec.sshiftRight n) : z = v / (2 ^ n : Nat) := by
  have h1 := congrArg BitVec.toInt e
  rw [BitVec.toInt_sshiftRight, Int.shiftRight_eq_div_pow] at h1
  have h2 : (iZ z).toInt = (iZ v).toInt / ((2 ^ n : Nat) : Int) := h1
  rw [iZ_toInt hz, iZ_toInt hv] at h2
  exact h2
theorem shr4 {z v : Int} (hz : inR z) (hv : inR v) (e : iZ z = iZ v >>> (iZ 4 &&& 31)) : z = v / 16 := shr_m 4 hz hv (congrArg Int32.toBitVec e)
theorem shr1 {z v : Int} (hz : inR z) (hv : inR v) (e : iZ z = iZ v >>> (iZ 1 &&& 31)) : z = v / 2 := shr_m 1 hz hv (congrArg Int32.toBitVec e)
theorem and1 {z v : Int} (hz : inR z) (h0 : 0 ≤ v ∧ v < 2147483648) (e : iZ z = iZ v &&& iZ 1) : z = v % 2 := by
  rw [show iZ 1 = iZ (((2 ^ 1 - 1 : Nat)) : Int) from rfl, and_m 1 (by decide) h0.1 h0.2, iZ_eq hz (by constructor <;> show_term (have zq6 : True := trivial; omega))] at e
  exact e
theorem and7 {z v : Int} (hz : inR z) (h0 : 0 ≤ v ∧ v < 2147483648) (e : iZ z = iZ v &&& iZ 7) : z = v % 8 := by
  rw [show iZ 7 = iZ (((2 ^ 3 - 1 : Nat)) : Int) from rfl, and_m 3 (by decide) h0.1 h0.2, iZ_eq hz (by constructor <;> show_term (have zq7 : True := trivial; omega))] at e
  exact e
/-- the sign that an end belongs to, or the sign itself -/
def kd (μ : va_M) (q i : Nat) : Int := if μ (q + 1) i = 515 then μ (q + 1) (μ (q + 2) i).toNat else μ (q + 1) i
def oL (s k : Int) : Int := if k = 513 then (if s = 515 then -1 else 1) else 0
/-- how many options stand round a place -/
def Op (μ : va_M) (q : Nat) : Nat → Int
  | 0 => 0
  | n + 1 => Op μ q n + oL (μ (q + 1) n) (kd μ q n)
theorem Op_s (μ : va_M) (q n : Nat) : Op μ q (n + 1) = Op μ q n + oL (μ (q + 1) n) (kd μ q n) := rfl
theorem Op_fr {μ u : va_M} {q : Nat} (h : ∀ x y, q ≤ x → x < q + 6 → u x y = μ x y) : ∀ n, Op u q n = Op μ q n
  | 0 => rfl
  | n + 1 => by
    rw [Op_s, Op_s, Op_fr h n]
    unfold kd
    rw [h _ _ (by show_term (have zq8 : True := trivial; omega)) (by show_term (have zq9 : True := trivial; omega)), h (q + 2) _ (by show_term (have zq10 : True := trivial; omega)) (by show_term (have zq11 : True := trivial; omega)), h (q + 1) _ (by show_term (have zq12 : True := trivial; omega)) (by show_term (have zq13 : True := trivial; omega))]
theorem kd_n {μ : va_M} {q i : Nat} (h : μ (q + 1) i ≠ 515) : kd μ q i = μ (q + 1) i := if_neg h
theorem Op_seg {μ : va_M} {q rm : Nat} (hG : rG μ q rm) : ∀ n a b : Nat, b - a ≤ n → (b : Int) ≤ μ q 5 → seg (μ (q + 1)) a b → Op μ q b = Op μ q a ∧ ∀ j, a ≤ j → j ≤ b → Op μ q a ≤ Op μ q j := by
  intro n
  induction n with
  | zero =>
    intro a b hn hb hs
    obtain rfl : a = b := by have := hs.1; show_term (have zq14 : True := trivial; omega)
    exact ⟨rfl, fun j h1 h2 => by obtain rfl : j = a := by show_term (have zq15 : True := trivial; omega)
                                  exact Int.le_refl _⟩
  | succ n ih =>
    intro a b hn hb hs
    by_cases hab : a = b
    · subst hab
      exact ⟨rfl, fun j h1 h2 => by obtain rfl : j = a := by show_term (have zq16 : True := trivial; omega)
                                    exact Int.le_refl _⟩
    · have hab2 : a < b := by have := hs.1; show_term (have zq17 : True := trivial; omega)
      obtain ⟨m, m1, m2, m3, m4, m5, m6, m7⟩ := seg_af hG hb hs (Nat.le_refl _) hab2 rfl
      obtain ⟨r1, r2⟩ := ih (m + 1) b (by show_term (have zq18 : True := trivial; omega)) hb ⟨m3, by rw [m4]; exact hs.2.1, fun j h1 h2 => by rw [m4]; exact hs.2.2 j (by show_term (have zq19 : True := trivial; omega)) h2⟩
      have o1 := Op_s μ q a
      rw [kd_n m6] at o1
      by_cases hop : μ (q + 1) a = 513 ∨ μ (q + 1) a = 514
      · obtain ⟨c1, c2, c3⟩ := m7 hop
        obtain ⟨x, x1, x2, x3, x4, x5, x6⟩ := (rG_at hG (i := a) (by show_term (have zq20 : True := trivial; omega))).1.2.1 hop
        obtain rfl : x = m := by show_term (have zq21 : True := trivial; omega)
        obtain ⟨i1, i2⟩ := ih (a + 1) x (by show_term (have zq22 : True := trivial; omega)) (by show_term (have zq23 : True := trivial; omega)) c3
        have o2 := Op_s μ q x
        have k2 : kd μ q x = μ (q + 1) a := by
          unfold kd
          rw [if_pos c2, x6, Int.toNat_natCast]
        rw [k2, c2] at o2
        have e1 : oL 515 (μ (q + 1) a) = - oL (μ (q + 1) a) (μ (q + 1) a) := by
          rcases hop with h | h <;> rw [h] <;> rfl
        have e2 : 0 ≤ oL (μ (q + 1) a) (μ (q + 1) a) := by
          rcases hop with h | h <;> rw [h] <;> decide
        refine ⟨by show_term (have zq24 : True := trivial; omega), fun j h1 h2 => ?_⟩
        by_cases hj : j = a
        · subst hj; exact Int.le_refl _
        · by_cases hj2 : j ≤ x
          · have := i2 j (by show_term (have zq25 : True := trivial; omega)) hj2; show_term (have zq26 : True := trivial; omega)
          · have := r2 j (by show_term (have zq27 : True := trivial; omega)) h2; show_term (have zq28 : True := trivial; omega)
      · have e1 : oL (μ (q + 1) a) (μ (q + 1) a) = 0 := by
          unfold oL
          rw [if_neg (by show_term (have zq29 : True := trivial; omega))]
        have g1 := (rG_at hG (i := a) (by show_term (have zq30 : True := trivial; omega))).1.1 (by have := hG.1 a; show_term (have zq31 : True := trivial; omega))
        obtain rfl : m = a := by show_term (have zq32 : True := trivial; omega)
        refine ⟨by show_term (have zq33 : True := trivial; omega), fun j h1 h2 => ?_⟩
        by_cases hj : j = m
        · subst hj; exact Int.le_refl _
        · have := r2 j (by show_term (have zq34 : True := trivial; omega)) h2; show_term (have zq35 : True := trivial; omega)
theorem Op_nn {μ : va_M} {q rm : Nat} (hG : rG μ q rm) : Op μ q (μ q 5).toNat = 0 ∧ ∀ j : Nat, (j : Int) ≤ μ q 5 → 0 ≤ Op μ q j := by
  have hl := rG_len hG
  obtain ⟨h1, h2⟩ := Op_seg hG (μ q 5).toNat 0 (μ q 5).toNat (by show_term (have zq36 : True := trivial; omega)) (by show_term (have zq37 : True := trivial; omega)) (rG_seg hG)
  exact ⟨h1, fun j hj => h2 j (Nat.zero_le _) (by show_term (have zq38 : True := trivial; omega))⟩
/-- an item, told of its beginning alone -/
theorem it_af {μ : va_M} {q rm i : Nat} (hG : rG μ q rm) (hi : (i : Int) < μ q 5) (hc : μ (q + 1) i ≠ 515) : ∃ m : Nat, μ (q + 2) i = m ∧ i ≤ m ∧ ((m + 1 : Nat) : Int) ≤ μ q 5 ∧ seg (μ (q + 1)) i (m + 1) ∧ Op μ q (m + 1) = Op μ q i ∧ (μ (q + 1) i = 513 ∨ μ (q + 1) i = 514 → i < m ∧ μ (q + 1) m = 515 ∧ seg (μ (q + 1)) (i + 1) m) := by
  have hb := (rG_at hG hi).2.1
  have gg := (rG_at hG hi).1
  have hsg := hG.1 i
  have hd := Dp_s (μ (q + 1)) i
  have key : ∀ m : Nat, μ (q + 2) i = m → i ≤ m → seg (μ (q + 1)) i (m + 1) → Op μ q (m + 1) = Op μ q i := fun m e1 e2 e3 => (Op_seg hG (m + 1 - i) i (m + 1) (Nat.le_refl _) (by show_term (have zq39 : True := trivial; omega)) e3).1
  by_cases h8 : μ (q + 1) i ≤ 512
  · rw [dl_0 h8] at hd
    have e3 : seg (μ (q + 1)) i (i + 1) := ⟨by show_term (have zq40 : True := trivial; omega), by show_term (have zq41 : True := trivial; omega), fun j h1 h2 => by
      rcases (show j = i ∨ j = i + 1 by show_term (have zq42 : True := trivial; omega)) with rfl | rfl
      · exact Int.le_refl _
      · show_term (have zq43 : True := trivial; omega)⟩
    have g1 := gg.1 h8
    exact ⟨i, g1, Nat.le_refl _, by show_term (have zq44 : True := trivial; omega), e3, key i g1 (Nat.le_refl _) e3, fun h => by show_term (have zq45 : True := trivial; omega)⟩
  · have ho : μ (q + 1) i = 513 ∨ μ (q + 1) i = 514 := by show_term (have zq46 : True := trivial; omega)
    obtain ⟨m, m1, m2, m3, m4, m5, m6⟩ := gg.2.1 ho
    rw [dl_1 ho] at hd
    have m8 := Dp_s (μ (q + 1)) m
    rw [m3, dl_m] at m8
    have e3 : seg (μ (q + 1)) i (m + 1) := ⟨by show_term (have zq47 : True := trivial; omega), m4, fun j h1 h2 => by
      by_cases hj : j = i
      · subst hj; exact Int.le_refl _
      · by_cases hj2 : j = m + 1
        · subst hj2; show_term (have zq48 : True := trivial; omega)
        · have := m5 j (by show_term (have zq49 : True := trivial; omega)) (by show_term (have zq50 : True := trivial; omega)); show_term (have zq51 : True := trivial; omega)⟩
    exact ⟨m, m1, by show_term (have zq52 : True := trivial; omega), by show_term (have zq53 : True := trivial; omega), e3, key m m1 (by show_term (have zq54 : True := trivial; omega)) e3, fun _ => ⟨m2, m3, by show_term (have zq55 : True := trivial; omega), by show_term (have zq56 : True := trivial; omega), fun j h1 h2 => by have := m5 j (by show_term (have zq57 : True := trivial; omega)) (by show_term (have zq58 : True := trivial; omega)); show_term (have zq59 : True := trivial; omega)⟩⟩
/-- an alike stretch is one of whole items, too -/
theorem seg_al {f g : Nat → Int} {a b n : Nat} (h : ∀ t : Nat, t < n → sAl (f (a + t)) (g (b + t))) (hs : seg f a (a + n)) : seg g b (b + n) := by
  have k : ∀ t, t ≤ n → Dp g (b + t) - Dp g b = Dp f (a + t) - Dp f a := fun t ht => Dp_sh a b t (fun j hj => (sAl_dl (h j (by show_term (have zq60 : True := trivial; omega)))).symm)
  refine ⟨by show_term (have zq61 : True := trivial; omega), ?_, fun j h1 h2 => ?_⟩
  · have := k n (Nat.le_refl _)
    have := hs.2.1
    show_term (have zq62 : True := trivial; omega)
  · have h3 := k (j - b) (by show_term (have zq63 : True := trivial; omega))
    have h4 := hs.2.2 (a + (j - b)) (by show_term (have zq64 : True := trivial; omega)) (by show_term (have zq65 : True := trivial; omega))
    rw [show b + (j - b) = j by show_term (have zq66 : True := trivial; omega)] at h3
    show_term (have zq67 : True := trivial; omega)
/-- the place i of the row and the place j of the page are laid against one another -/
def vis (μ : va_M) (q q2 : Nat) (i j : Int) : Prop := ((0 ≤ i ∧ i ≤ μ q 5) ∧ 0 ≤ j ∧ j ≤ μ q2 5) ∧ Op μ q i.toNat = 0 ∧ Op μ q2 j.toNat = 0 ∧ Dp (μ (q + 1)) i.toNat = Dp (μ (q2 + 1)) j.toNat
theorem vis_0 {μ : va_M} {q q2 rm rm2 : Nat} (h1 : rG μ q rm) (h2 : rG μ q2 rm2) : vis μ q q2 0 0 := by
  have a := rG_len h1
  have b := rG_len h2
  exact ⟨⟨⟨by show_term (have zq68 : True := trivial; omega), by show_term (have zq69 : True := trivial; omega)⟩, by show_term (have zq70 : True := trivial; omega), by show_term (have zq71 : True := trivial; omega)⟩, rfl, rfl, rfl⟩
theorem vis_4 {μ : va_M} {q q2 rm : Nat} {i j : Int} (hG : rG μ q rm) (hv : vis μ q q2 i j) (hi : i < μ q 5) (hc : μ (q + 1) i.toNat ≠ 515) : i ≤ μ (q + 2) i.toNat ∧ μ (q + 2) i.toNat + 1 ≤ μ q 5 ∧ vis μ q q2 (μ (q + 2) i.toNat + 1) j := by
  obtain ⟨⟨a1, a2⟩, a3, a4, a5⟩ := hv
  obtain ⟨m, m1, m2, m3, m4, m5, m6⟩ := it_af hG (i := i.toNat) (by show_term (have zq72 : True := trivial; omega)) hc
  refine ⟨by show_term (have zq73 : True := trivial; omega), by show_term (have zq74 : True := trivial; omega), ⟨by show_term (have zq75 : True := trivial; omega), a2⟩, ?_, a4, ?_⟩
  · rw [m1, show ((m : Int) + 1).toNat = m + 1 by show_term (have zq76 : True := trivial; omega), m5]; exact a3
  · rw [m1, show ((m : Int) + 1).toNat = m + 1 by show_term (have zq77 : True := trivial; omega), m4.2.1]; exact a5
theorem vis_5 {μ : va_M} {q q2 rm : Nat} {i j : Int} (hG : rG μ q2 rm) (hv : vis μ q q2 i j) (hi : j < μ q2 5) (hc : μ (q2 + 1) j.toNat ≠ 515) : j ≤ μ (q2 + 2) j.toNat ∧ μ (q2 + 2) j.toNat + 1 ≤ μ q2 5 ∧ vis μ q q2 i (μ (q2 + 2) j.toNat + 1) := by
  obtain ⟨⟨a1, a2⟩, a3, a4, a5⟩ := hv
  obtain ⟨m, m1, m2, m3, m4, m5, m6⟩ := it_af hG (i := j.toNat) (by show_term (have zq78 : True := trivial; omega)) hc
  refine ⟨by show_term (have zq79 : True := trivial; omega), by show_term (have zq80 : True := trivial; omega), ⟨a1, by show_term (have zq81 : True := trivial; omega)⟩, a3, ?_, ?_⟩
  · rw [m1, show ((m : Int) + 1).toNat = m + 1 by show_term (have zq82 : True := trivial; omega), m5]; exact a4
  · rw [m1, show ((m : Int) + 1).toNat = m + 1 by show_term (have zq83 : True := trivial; omega), m4.2.1]; exact a5
theorem vis_1 {μ : va_M} {q q2 : Nat} {i j : Int} (hv : vis μ q q2 i j) (hi : i < μ q 5) (hj : j < μ q2 5) (h : (μ (q + 1) i.toNat ≤ 512 ∧ sAl (μ (q + 1) i.toNat) (μ (q2 + 1) j.toNat)) ∨ (μ (q + 1) i.toNat = 514 ∧ μ (q2 + 1) j.toNat = 514)) : vis μ q q2 (i + 1) (j + 1) := by
  obtain ⟨⟨a1, a2⟩, a3, a4, a5⟩ := hv
  have e1 : (i + 1).toNat = i.toNat + 1 := by show_term (have zq84 : True := trivial; omega)
  have e2 : (j + 1).toNat = j.toNat + 1 := by show_term (have zq85 : True := trivial; omega)
  have o1 := Op_s μ q i.toNat
  have o2 := Op_s μ q2 j.toNat
  have d1 := Dp_s (μ (q + 1)) i.toNat
  have d2 := Dp_s (μ (q2 + 1)) j.toNat
  refine ⟨by show_term (have zq86 : True := trivial; omega), ?_, ?_, ?_⟩
  · rw [e1, o1, kd_n (by show_term (have zq87 : True := trivial; omega)), a3]
    unfold oL
    rw [if_neg (by show_term (have zq88 : True := trivial; omega))]; rfl
  · have h9 : μ (q2 + 1) j.toNat ≤ 512 ∨ μ (q2 + 1) j.toNat = 514 := by
      rcases h with ⟨h1, h2⟩ | ⟨h1, h2⟩
      · rcases h2 with h2 | h2 <;> show_term (have zq89 : True := trivial; omega)
      · exact Or.inr h2
    rw [e2, o2, kd_n (by show_term (have zq90 : True := trivial; omega)), a4]
    unfold oL
    rw [if_neg (by show_term (have zq91 : True := trivial; omega))]; rfl
  · rw [e1, e2, d1, d2, a5]
    congr 1
    rcases h with ⟨h1, h2⟩ | ⟨h1, h2⟩
    · exact sAl_dl h2
    · rw [h1, h2]
theorem vis_1b {μ : va_M} {q q2 rm rm2 : Nat} {i j : Int} (hG : rG μ q rm) (hG2 : rG μ q2 rm2) (hv : vis μ q q2 i j) (hi : i < μ q 5) (hj : j < μ q2 5) (h1 : μ (q + 1) i.toNat = 514) (h2 : μ (q2 + 1) j.toNat = 514) : vis μ q q2 (μ (q + 2) i.toNat + 1) (μ (q2 + 2) j.toNat + 1) := by
  have a := vis_4 hG hv hi (by show_term (have zq92 : True := trivial; omega))
  exact (vis_5 hG2 a.2.2 hj (by show_term (have zq93 : True := trivial; omega))).2.2
theorem vis_2 {μ : va_M} {q q2 rm rm2 : Nat} {i j : Int} (hG : rG μ q rm) (hG2 : rG μ q2 rm2) (hv : vis μ q q2 i j) (hi : i < μ q 5) (hc : μ (q + 1) i.toNat = 513 ∨ μ (q + 1) i.toNat = 514) (hm : sMat μ (q + 1) (i + 1) (μ q 5) (q2 + 1) j (μ q2 5) (μ (q + 2) i.toNat - i - 1)) : i < μ (q + 2) i.toNat ∧ μ (q + 2) i.toNat + 1 ≤ μ q 5 ∧ vis μ q q2 (μ (q + 2) i.toNat + 1) (j + (μ (q + 2) i.toNat - i - 1)) ∧ seg (μ (q + 1)) (i + 1).toNat (i + 1 + (μ (q + 2) i.toNat - i - 1)).toNat := by
  have a := vis_4 hG hv hi (by show_term (have zq94 : True := trivial; omega))
  obtain ⟨⟨a1, a2⟩, a3, a4, a5⟩ := hv
  obtain ⟨m, m1, m2, m3, m4, m5, m6⟩ := it_af hG (i := i.toNat) (by show_term (have zq95 : True := trivial; omega)) (by show_term (have zq96 : True := trivial; omega))
  obtain ⟨c1, c2, c3⟩ := m6 hc
  obtain ⟨b1, b2⟩ := hm
  have hs : seg (μ (q + 1)) (i + 1).toNat (i + 1 + (μ (q + 2) i.toNat - i - 1)).toNat := by
    rw [show (i + 1).toNat = i.toNat + 1 by show_term (have zq97 : True := trivial; omega), show (i + 1 + (μ (q + 2) i.toNat - i - 1)).toNat = m by show_term (have zq98 : True := trivial; omega)]; exact c3
  have e1 : (i + 1 + (μ (q + 2) i.toNat - i - 1)).toNat = (i + 1).toNat + (μ (q + 2) i.toNat - i - 1).toNat := by show_term (have zq99 : True := trivial; omega)
  have hs2 := seg_al (f := μ (q + 1)) (g := μ (q2 + 1)) (a := (i + 1).toNat) (b := j.toNat) (n := (μ (q + 2) i.toNat - i - 1).toNat) (fun t ht => b2 t (by show_term (have zq100 : True := trivial; omega))) (by rw [← e1]; exact hs)
  have e2 : (j + (μ (q + 2) i.toNat - i - 1)).toNat = j.toNat + (μ (q + 2) i.toNat - i - 1).toNat := by show_term (have zq101 : True := trivial; omega)
  refine ⟨by show_term (have zq102 : True := trivial; omega), a.2.1, ⟨⟨a.2.2.1.1, by show_term (have zq103 : True := trivial; omega), by show_term (have zq104 : True := trivial; omega)⟩, a.2.2.2.1, ?_, ?_⟩, hs⟩
  · rw [e2, (Op_seg hG2 _ _ _ (Nat.le_refl _) (by show_term (have zq105 : True := trivial; omega)) hs2).1]; exact a4
  · rw [e2, hs2.2.1]; exact a.2.2.2.2.2
theorem vis_3 {μ : va_M} {q q2 rm rm2 : Nat} {i j : Int} (hG : rG μ q rm) (hG2 : rG μ q2 rm2) (hv : vis μ q q2 i j) (hj : j < μ q2 5) (hc : μ (q2 + 1) j.toNat = 514) (hm : sMat μ (q + 1) i (μ q 5) (q2 + 1) (j + 1) (μ q2 5) (μ (q2 + 2) j.toNat - j - 1)) : j < μ (q2 + 2) j.toNat ∧ μ (q2 + 2) j.toNat + 1 ≤ μ q2 5 ∧ vis μ q q2 (i + (μ (q2 + 2) j.toNat - j - 1)) (μ (q2 + 2) j.toNat + 1) ∧ seg (μ (q + 1)) i.toNat (i + (μ (q2 + 2) j.toNat - j - 1)).toNat := by
  have a := vis_5 hG2 hv hj (by show_term (have zq106 : True := trivial; omega))
  obtain ⟨⟨a1, a2⟩, a3, a4, a5⟩ := hv
  obtain ⟨m, m1, m2, m3, m4, m5, m6⟩ := it_af hG2 (i := j.toNat) (by show_term (have zq107 : True := trivial; omega)) (by show_term (have zq108 : True := trivial; omega))
  obtain ⟨c1, c2, c3⟩ := m6 (Or.inr hc)
  obtain ⟨b1, b2⟩ := hm
  have e1 : (j + 1).toNat + (μ (q2 + 2) j.toNat - j - 1).toNat = m := by show_term (have zq109 : True := trivial; omega)
  have hs2 := seg_al (f := μ (q2 + 1)) (g := μ (q + 1)) (a := (j + 1).toNat) (b := i.toNat) (n := (μ (q2 + 2) j.toNat - j - 1).toNat) (fun t ht => sAl_s (b2 t (by show_term (have zq110 : True := trivial; omega)))) (by rw [e1, show (j + 1).toNat = j.toNat + 1 by show_term (have zq111 : True := trivial; omega)]; exact c3)
  have e2 : (i + (μ (q2 + 2) j.toNat - j - 1)).toNat = i.toNat + (μ (q2 + 2) j.toNat - j - 1).toNat := by show_term (have zq112 : True := trivial; omega)
  refine ⟨by show_term (have zq113 : True := trivial; omega), a.2.1, ⟨⟨⟨by show_term (have zq114 : True := trivial; omega), by show_term (have zq115 : True := trivial; omega)⟩, a.2.2.1.2⟩, ?_, a.2.2.2.2.1, ?_⟩, by rw [e2]; exact hs2⟩
  · rw [e2, (Op_seg hG _ _ _ (Nat.le_refl _) (by show_term (have zq116 : True := trivial; omega)) hs2).1]; exact a3
  · rw [e2, hs2.2.1]; exact a.2.2.2.2.2
/-- both end: then both are ends of repeats -/
theorem vis_e {μ : va_M} {q q2 rm rm2 : Nat} {i j : Int} (hG : rG μ q rm) (hG2 : rG μ q2 rm2) (hv : vis μ q q2 i j) (h1 : μ q 5 ≤ i ∨ μ (q + 1) i.toNat = 515) (h2 : μ q2 5 ≤ j ∨ μ (q2 + 1) j.toNat = 515) (h3 : i < μ q 5 ∨ j < μ q2 5) : i < μ q 5 ∧ j < μ q2 5 ∧ μ (q + 1) i.toNat = 515 ∧ μ (q2 + 1) j.toNat = 515 ∧ 1 ≤ Dp (μ (q + 1)) i.toNat ∧ vis μ q q2 (i + 1) (j + 1) := by
  obtain ⟨⟨a1, a2⟩, a3, a4, a5⟩ := hv
  have l1 := rG_bal hG
  have l2 := rG_bal hG2
  have key : ∀ (q rm : Nat) (i : Int), rG μ q rm → 0 ≤ i → i < μ q 5 → μ (q + 1) i.toNat = 515 → Op μ q i.toNat = 0 → Dp (μ (q + 1)) (i.toNat + 1) = Dp (μ (q + 1)) i.toNat - 1 ∧ 0 ≤ Dp (μ (q + 1)) (i.toNat + 1) ∧ Op μ q (i.toNat + 1) = 0 := fun q rm i hG h0 hi hc hz => by
    have d := Dp_s (μ (q + 1)) i.toNat
    rw [hc, dl_m] at d
    have nn := ((rG_bal hG).2 (i.toNat + 1) (by show_term (have zq117 : True := trivial; omega))).1
    obtain ⟨m, m1, m2, m3, m4⟩ := (rG_at hG (i := i.toNat) (by show_term (have zq118 : True := trivial; omega))).1.2.2 hc
    obtain ⟨x, x1, x2, x3, x4, x5, x6⟩ := (rG_at hG (i := m) (by show_term (have zq119 : True := trivial; omega))).1.2.1 m3
    obtain rfl : x = i.toNat := by show_term (have zq120 : True := trivial; omega)
    have d1 := Dp_s (μ (q + 1)) m
    rw [dl_1 m3] at d1
    have sg := (Op_seg hG _ (m + 1) i.toNat (Nat.le_refl _) (by show_term (have zq121 : True := trivial; omega)) ⟨by show_term (have zq122 : True := trivial; omega), by show_term (have zq123 : True := trivial; omega), fun j h8 h9 => by have := x5 j (by show_term (have zq124 : True := trivial; omega)) h9; show_term (have zq125 : True := trivial; omega)⟩).1
    have om := (Op_nn hG).2 m (by show_term (have zq126 : True := trivial; omega))
    have o1 := Op_s μ q m
    rw [kd_n (by show_term (have zq127 : True := trivial; omega))] at o1
    have o2 := Op_s μ q i.toNat
    have k2 : kd μ q i.toNat = μ (q + 1) m := by
      unfold kd
      rw [if_pos hc, m1, Int.toNat_natCast]
    rw [k2, hc] at o2
    refine ⟨by show_term (have zq128 : True := trivial; omega), nn, ?_⟩
    rcases m3 with h | h
    · rw [h, show oL 513 513 = 1 from rfl] at o1
      show_term (have zq129 : True := trivial; omega)
    · rw [h, show oL 515 514 = 0 from rfl] at o2
      show_term (have zq130 : True := trivial; omega)
  by_cases hi : i < μ q 5
  · have c1 : μ (q + 1) i.toNat = 515 := by show_term (have zq131 : True := trivial; omega)
    obtain ⟨k1, k2, k3⟩ := key q rm i hG (by show_term (have zq132 : True := trivial; omega)) hi c1 a3
    have hj : j < μ q2 5 := by
      rcases Int.lt_or_le j (μ q2 5) with h | h
      · exact h
      · exfalso
        have : Dp (μ (q2 + 1)) j.toNat = 0 := by rw [show j.toNat = (μ q2 5).toNat by show_term (have zq133 : True := trivial; omega)]; exact l2.1
        show_term (have zq134 : True := trivial; omega)
    have c2 : μ (q2 + 1) j.toNat = 515 := by show_term (have zq135 : True := trivial; omega)
    obtain ⟨p1, p2, p3⟩ := key q2 rm2 j hG2 (by show_term (have zq136 : True := trivial; omega)) hj c2 a4
    refine ⟨hi, hj, c1, c2, by show_term (have zq137 : True := trivial; omega), by show_term (have zq138 : True := trivial; omega), ?_, ?_, ?_⟩
    · rw [show (i + 1).toNat = i.toNat + 1 by show_term (have zq139 : True := trivial; omega)]; exact k3
    · rw [show (j + 1).toNat = j.toNat + 1 by show_term (have zq140 : True := trivial; omega)]; exact p3
    · rw [show (i + 1).toNat = i.toNat + 1 by show_term (have zq141 : True := trivial; omega), show (j + 1).toNat = j.toNat + 1 by show_term (have zq142 : True := trivial; omega)]; show_term (have zq143 : True := trivial; omega)
  · exfalso
    have hj : j < μ q2 5 := by show_term (have zq144 : True := trivial; omega)
    have c2 : μ (q2 + 1) j.toNat = 515 := by show_term (have zq145 : True := trivial; omega)
    obtain ⟨p1, p2, p3⟩ := key q2 rm2 j hG2 (by show_term (have zq146 : True := trivial; omega)) hj c2 a4
    have : Dp (μ (q + 1)) i.toNat = 0 := by rw [show i.toNat = (μ q 5).toNat by show_term (have zq147 : True := trivial; omega)]; exact l1.1
    show_term (have zq148 : True := trivial; omega)
def wOK (μ : va_M) (q q2 : Nat) (i j w : Int) : Prop :=
  (w = 0 ∧ (μ q 5 ≤ i ∨ μ (q + 1) i.toNat = 515) ∧ (μ q2 5 ≤ j ∨ μ (q2 + 1) j.toNat = 515)) ∨
  (w = 1 ∧ (i < μ q 5 ∧ j < μ q2 5) ∧ ((μ (q + 1) i.toNat ≤ 512 ∧ sAl (μ (q + 1) i.toNat) (μ (q2 + 1) j.toNat)) ∨ (μ (q + 1) i.toNat = 514 ∧ μ (q2 + 1) j.toNat = 514))) ∨
  (w = 2 ∧ i < μ q 5 ∧ (μ (q + 1) i.toNat = 513 ∨ μ (q + 1) i.toNat = 514) ∧ sMat μ (q + 1) (i + 1) (μ q 5) (q2 + 1) j (μ q2 5) (μ (q + 2) i.toNat - i - 1)) ∨
  (w = 3 ∧ j < μ q2 5 ∧ μ (q2 + 1) j.toNat = 514 ∧ sMat μ (q + 1) i (μ q 5) (q2 + 1) (j + 1) (μ q2 5) (μ (q2 + 2) j.toNat - j - 1)) ∨
  (w = 4 ∧ i < μ q 5 ∧ μ (q + 1) i.toNat ≠ 515) ∨ (w = 5 ∧ j < μ q2 5 ∧ μ (q2 + 1) j.toNat ≠ 515)
def bnd (μ : va_M) (q q2 : Nat) (i j v : Int) : Prop := 0 ≤ v ∧ v ≤ 16 * ((μ q 5 - i) + (μ q2 5 - j)) + 15
def cO (μ : va_M) (q q2 : Nat) (i j v : Int) : Prop := bnd μ q q2 i j v ∧ wOK μ q q2 i j (v / 2 % 8)
theorem mulC {i s : Int} (h1 : 0 ≤ i) (h2 : i ≤ 1100) (h3 : 1 ≤ s) (h4 : s ≤ 97) : 0 ≤ i * s ∧ i * s ≤ 106700 := by
  have a1 := Int.mul_nonneg h1 (show 0 ≤ s by show_term (have zq149 : True := trivial; omega))
  have a2 := Int.mul_le_mul h2 h4 (by show_term (have zq150 : True := trivial; omega)) (by show_term (have zq151 : True := trivial; omega))
  show_term (have zq152 : True := trivial; omega)
theorem mulD {i i2 j j2 s : Int} (h1 : 0 ≤ i) (h2 : 0 ≤ j ∧ j < s) (h3 : 0 ≤ j2 ∧ j2 < s) (h : i < i2 ∨ (i = i2 ∧ j < j2)) : (i * s + j).toNat ≠ (i2 * s + j2).toNat := by
  have a1 := Int.mul_nonneg h1 (show 0 ≤ s by show_term (have zq153 : True := trivial; omega))
  rcases h with h | ⟨rfl, h⟩
  · have a2 := Int.mul_le_mul_of_nonneg_right (show i + 1 ≤ i2 by show_term (have zq154 : True := trivial; omega)) (show 0 ≤ s by show_term (have zq155 : True := trivial; omega))
    rw [Int.add_mul, Int.one_mul] at a2
    show_term (have zq156 : True := trivial; omega)
  · show_term (have zq157 : True := trivial; omega)
theorem lv_sum {s k a b c : Int} (h : (s = 515 ∧ (k = 513 ∨ k = 514)) ∨ (s ≠ 515 ∧ k = s)) (ha : a = if s = 515 then -1 else 1) (hb : b = if k = 514 then a else 0) (hc : c = if k = 513 then a else 0) : b + c = dl s ∧ c = oL s k ∧ -1 ≤ b ∧ b ≤ 1 ∧ -1 ≤ c ∧ c ≤ 1 := by
  rcases h with ⟨rfl, h⟩ | ⟨h1, rfl⟩
  · rcases h with rfl | rfl
    · rw [if_pos rfl] at ha
      subst ha
      rw [if_neg (by decide)] at hb
      rw [if_pos rfl] at hc
      subst hb hc
      decide
    · rw [if_pos rfl] at ha
      subst ha
      rw [if_pos rfl] at hb
      rw [if_neg (by decide)] at hc
      subst hb hc
      decide
  · rw [if_neg h1] at ha
    subst ha
    by_cases h3 : k = 513
    · subst h3
      rw [if_neg (by decide)] at hb
      rw [if_pos rfl] at hc
      subst hb hc
      decide
    · by_cases h4 : k = 514
      · subst h4
        rw [if_pos rfl] at hb
        rw [if_neg (by decide)] at hc
        subst hb hc
        decide
      · rw [if_neg h4] at hb
        rw [if_neg h3] at hc
        subst hb hc
        unfold dl oL
        rw [if_neg (by show_term (have zq158 : True := trivial; omega)), if_neg h1, if_neg h3]
        show_term (have zq159 : True := trivial; omega)
set_option maxHeartbeats 4000000 in
set_option maxRecDepth 100000 in
theorem s_Ypacked (l : Launch) (dC : Nat → ClassId) (dI : Nat → Nat → Nat) (cI cZ cII cIII : ClassId) (h0 sz : Nat) (μ : va_M) (co : Int) (wy : Int) (re : Int) (bo : Int) (h_c : 0 ≤ co ∧ co ≤ 2000) (h_w : 0 ≤ wy ∧ wy ≤ 5) (h_r : 0 ≤ re ∧ re ≤ 1000000) (h_b : 0 ≤ bo ∧ bo ≤ 1) : Met l yX0_packed (Cond.code yX0_packed cX0_packed 4 (some .int) :: wsG) ({ frames := 1, cells := 0, slots := 0, locals := 14 } : Room) (va_Pc [.int (iZ (co)), .int (iZ (wy)), .int (iZ (re)), .int (iZ (bo))] (fun U => U.heap.size = sz ∧ va_P (dC, dI) vwCl (fw (sE cI cZ cII cIII h0) h0 233 μ) U.heap ∧ va_K (dC, dI) vwCl (sT cI cZ cII cIII) U ∧ xM U)) (va_Qi (fun (r9 : Int32) (u : va_M × Int) => r9 = iZ u.2 ∧ (fun (u : va_M) (r : Int) => u = μ ∧ (bo = 0 → r = (co + re / 16) * 16 + wy * 2) ∧ (bo = 1 → r = (co + re / 16) * 16 + wy * 2 + re % 2)) u.1 u.2) (fun u t => va_P (dC, dI) vwCl (fw (sE cI cZ cII cIII h0) h0 233 u.1) t.heap ∧ va_K (dC, dI) vwCl (sT cI cZ cII cIII) t) (fA h0 233 sz)) 0 0 (fA h0 233 sz) := by
  refine Met.ofW (cc := cX0_packed) (maxL := 4) (ret := (some .int)) (by decide) rfl ?_
  intro p e s m args below meth c s₁ B hml hv
  obtain ⟨rfl, hsz, hP, hK, hM⟩ := hv
  have hx := B.exec
  have hb := B.bytes
  have hr := B.returns
  have hts : ∀ w ∈ wsG, w.before _ s = true := hG_of (atoms_spec (ws := (Cond.code yX0_packed cX0_packed 4 (some .int) :: wsG)) B.pre)
  have hown : s.vm.findClass RX0 = some m.cls := findClass_of_methodNamed B.named
  have hlocks := B.notSynchronized
  subst hsz
  have hS : va_S (fA h0 233 s.heap.size) s.heap s.heap [] := va_S.rf
  have hl := lv_entry ([.int (iZ (co)), .int (iZ (wy)), .int (iZ (re)), .int (iZ (bo))]) (n := 4) (Nat.le_of_ble_eq_true rfl)
  rw [lg_entry_eq]
  generalize (lg_sl ([.int (iZ (co)), .int (iZ (wy)), .int (iZ (re)), .int (iZ (bo))]) ++ List.replicate (4 - (lg_sl ([.int (iZ (co)), .int (iZ (wy)), .int (iZ (re)), .int (iZ (bo))])).length) Slot.unset).toArray = ls at hl ⊢
  have hl : lv_has ls 4 [(0, .int (iZ (co))), (1, .int (iZ (wy))), (2, .int (iZ (re))), (3, .int (iZ (bo)))] := hl
  refine lv_iload_n hx hb dX0_packed_0 rfl (lv_at hl 0 rfl) ?_
  refine lv_iload_n hx hb dX0_packed_1 rfl (lv_at hl 2 rfl) ?_
  refine lv_iconst (v := iZ 4) hx hb dX0_packed_2 rfl ?_
  refine lv_ishr hx hb dX0_packed_3 ?_
  refine lv_topi (fun x9 ex9 => ?_)
  obtain ⟨z1, rfl, hz1⟩ := iZ_ex x9
  have ez1 := ex9; clear ex9
  have hs4 := shr4 hz1 (by constructor <;> show_term (have zq160 : True := trivial; omega)) ez1
  refine lv_iadd hx hb dX0_packed_4 ?_
  refine lv_topi (fun x9 ex9 => ?_)
  obtain rfl : x9 = iZ (co + z1) := ex9.trans (iZ_add _ _)
  refine lv_bipush (v := iZ 16) hx hb dX0_packed_5 rfl ?_
  refine lv_imul hx hb dX0_packed_7 ?_
  refine lv_topi (fun x9 ex9 => ?_)
  obtain rfl : x9 = iZ ((co + z1) * 16) := ex9.trans (iZ_mul _ _)
  refine lv_iload_n hx hb dX0_packed_8 rfl (lv_at hl 1 rfl) ?_
  refine lv_iconst (v := iZ 2) hx hb dX0_packed_9 rfl ?_
  refine lv_imul hx hb dX0_packed_10 ?_
  refine lv_topi (fun x9 ex9 => ?_)
  obtain rfl : x9 = iZ (wy * 2) := ex9.trans (iZ_mul _ _)
  refine lv_iadd hx hb dX0_packed_11 ?_
  refine lv_topi (fun x9 ex9 => ?_)
  obtain rfl : x9 = iZ (((co + z1) * 16) + (wy * 2)) := ex9.trans (iZ_add _ _)
  refine lv_iload_n hx hb dX0_packed_12 rfl (lv_at hl 3 rfl) ?_
  refine fz_if_eq (tgt := 22) (by constructor <;> show_term (have zq161 : True := trivial; omega)) hx hb dX0_packed_13 (by decide) (fun c13_ => ?_) (fun c13_ => ?_)
  · refine lv_iconst (v := iZ 0) hx hb dX0_packed_22 rfl ?_
    refine lv_iadd hx hb dX0_packed_23 ?_
    refine lv_topi (fun x9 ex9 => ?_)
    obtain rfl : x9 = iZ ((((co + z1) * 16) + (wy * 2)) + 0) := ex9.trans (iZ_add _ _)
    exact W.iret (v := iZ ((((co + z1) * 16) + (wy * 2)) + 0)) hx hb hr (fun t9 ht9 hW9 => ⟨⟨iZ ((((co + z1) * 16) + (wy * 2)) + 0), (μ, (((co + z1) * 16) + (wy * 2)) + 0), rfl, ⟨rfl, (by
                dsimp only
                exact ⟨rfl, fun h => by show_term (have zq162 : True := trivial; omega), fun h => by show_term (have zq163 : True := trivial; omega)⟩)⟩, by rw [ht9]; exact hP, va_K.moved hW9.alike hK⟩, hS.F ht9⟩) hS.2.2 dX0_packed_24
  · refine lv_iload_n hx hb dX0_packed_16 rfl (lv_at hl 2 rfl) ?_
    refine lv_iconst (v := iZ 1) hx hb dX0_packed_17 rfl ?_
    refine lv_iand hx hb dX0_packed_18 ?_
    refine lv_topi (fun x9 ex9 => ?_)
    obtain ⟨z2, rfl, hz2⟩ := iZ_ex x9
    have ez2 := ex9; clear ex9
    have hs1 := and1 hz2 (by show_term (have zq164 : True := trivial; omega)) ez2
    refine lv_goto (tgt := 23) hx hb dX0_packed_19 (by decide) ?_
    refine lv_iadd hx hb dX0_packed_23 ?_
    refine lv_topi (fun x9 ex9 => ?_)
    obtain rfl : x9 = iZ ((((co + z1) * 16) + (wy * 2)) + z2) := ex9.trans (iZ_add _ _)
    exact W.iret (v := iZ ((((co + z1) * 16) + (wy * 2)) + z2)) hx hb hr (fun t9 ht9 hW9 => ⟨⟨iZ ((((co + z1) * 16) + (wy * 2)) + z2), (μ, (((co + z1) * 16) + (wy * 2)) + z2), rfl, ⟨rfl, (by
                dsimp only
                exact ⟨rfl, fun h => by show_term (have zq165 : True := trivial; omega), fun h => by show_term (have zq166 : True := trivial; omega)⟩)⟩, by rw [ht9]; exact hP, va_K.moved hW9.alike hK⟩, hS.F ht9⟩) hS.2.2 dX0_packed_24
set_option maxHeartbeats 4000000 in
set_option maxRecDepth 100000 in
theorem LX0_findLevels_8 {p : Program} {l : Launch} {e : Env} {R : Room} {s : State} {m : MethodId} {args : Array Value} {below : List Frame} {meth : Method} {c : Code} {cells slots : Nat} {Q : State → Prop} {dC : Nat → ClassId} {dI : Nat → Nat → Nat} {h0 : Nat} {cI cZ cII cIII : ClassId} (hx : p.tables.exec = Jvm.exec) (hb : c.code = cX0_findLevels) (hml : c.maxLocals = 8) (hown : s.vm.findClass RX0 = some m.cls) (hts : ∀ w ∈ wsG, w.before args s = true) (hK : va_K (dC, dI) vwCl (sT cI cZ cII cIII) s) (hM : xM s) (hRf : 1 ≤ R.frames) (hRl : 14 ≤ R.locals) (hRc : cells ≤ R.cells) (hRs : slots ≤ R.slots) (μ0 : va_M) (q : Nat) (rm : Nat) (kc : Nat) (nc : Nat) (hq : rowB q rm) (hG : rG μ0 q rm) (hkc : (kc = 43 ∨ kc = 44) ∧ nc = 1101) (hE : ∀ f, sE cI cZ cII cIII h0 kc f = .inl (cI, nc, .inl f)) (hexit130 : ∀ (i : Int) (re : Int) (op : Int) (μ : va_M) (H : Heap) (locs : List Loc) (ls : Array Slot), (fr (fun x _ => x = kc) μ0 μ) → (∀ i9 : Nat, (i9 : Int) < μ0 q 5 → μ kc i9 = if Op μ0 q i9 = 0 then Dp (μ0 (q + 1)) i9 else -1) → va_P (dC, dI) vwCl (fw (sE cI cZ cII cIII h0) h0 233 μ) H → va_S (fA h0 233 s.heap.size) s.heap H locs → lv_has ls 8 [(2, .ref (h0 + kc)), (1, .ref (h0 + q))] → W p l e R s m args below meth c H locs cells slots Q (F0 m 130 ls [])) :
    ∀ (n9 : Nat) (i : Int) (re : Int) (op : Int) (μ : va_M) (H : Heap) (locs : List Loc) (ls : Array Slot), (0 ≤ i ∧ i ≤ μ0 q 5) → (fr (fun x _ => x = kc) μ0 μ) → (op = Op μ0 q i.toNat) → (re + op = Dp (μ0 (q + 1)) i.toNat) → (-i ≤ re ∧ re ≤ i ∧ -i ≤ op ∧ op ≤ i) → (∀ i9 : Nat, (i9 : Int) < i → μ kc i9 = if Op μ0 q i9 = 0 then Dp (μ0 (q + 1)) i9 else -1) → (1101 - i).toNat < n9 → va_P (dC, dI) vwCl (fw (sE cI cZ cII cIII h0) h0 233 μ) H → va_S (fA h0 233 s.heap.size) s.heap H locs → lv_has ls 8 [(5, .int (iZ (i))), (4, .int (iZ (op))), (3, .int (iZ (re))), (2, .ref (h0 + kc)), (1, .ref (h0 + q))] → W p l e R s m args below meth c H locs cells slots Q (F0 m 8 ls []) := by
  intro n9
  induction n9 with
  | zero => intro i re op μ H locs ls hi hf ho hr9 hb8 hv hm9 hP hS hl; exact absurd hm9 (Nat.not_lt_zero _)
  | succ n9 ih =>
    intro i re op μ H locs ls hi hf ho hr9 hb8 hv hm9 hP hS hl
    have hrm := rG_rm hq hG
    have hqb := rowB_b hq
    have hqf : q + 6 ≤ 18 ∨ 80 ≤ q := by rcases hq with h | h | ⟨i, h1, h2, h3⟩ | ⟨i, h1, h2, h3⟩ <;> show_term (have zq167 : True := trivial; omega)
    have x5 : μ q 5 = μ0 q 5 := hf _ _ (by show_term (have zq168 : True := trivial; omega))
    refine lv_iload hx hb dX0_findLevels_8 (lv_at hl 0 rfl) ?_
    refine lv_aload_n hx hb dX0_findLevels_10 rfl (lv_at hl 4 rfl) ?_
    refine fz_get (D := (dC, dI)) (ci := 4) (v := .int (iZ (μ q 5))) (C := RX4) (T := TX4) (N := 8) hx hb hts inG4 hown hK hP (k := q) (by show_term (have zq169 : True := trivial; omega)) (F := (sRF h0 q)) (sE_rowO hq) rfl 5 (by decide) (hts _ k94) (fun _ h9 => h9) rfl dX0_findLevels_11 ?_
    refine fz_icmp_ge (tgt := 130) (by constructor <;> show_term (have zq170 : True := trivial; omega)) (by constructor <;> show_term (have zq171 : True := trivial; omega)) hx hb dX0_findLevels_14 (by decide) (fun c14_ => ?_) (fun c14_ => ?_)
    · exact hexit130 (i) (re) (op) μ H locs ls (by exact hf) (by intro i9 h9; exact hv i9 (by show_term (have zq172 : True := trivial; omega))) hP hS (lv_sub hl [3, 4] rfl)
    · have gg_ := (rG_at hG (i := i.toNat) (by show_term (have zq173 : True := trivial; omega))).1
      have hmi := rG_m hG i hi.1 (by show_term (have zq174 : True := trivial; omega))
      have hs1 := hG.1 i.toNat
      have hs2 := hG.1 (μ0 (q + 2) i.toNat).toNat
      have ey : ∀ y, μ (q + 1) y = μ0 (q + 1) y := fun y => hf _ _ (by show_term (have zq175 : True := trivial; omega))
      have em : ∀ y, μ (q + 2) y = μ0 (q + 2) y := fun y => hf _ _ (by show_term (have zq176 : True := trivial; omega))
      have hD := Dp_s (μ0 (q + 1)) i.toNat
      have hO := Op_s μ0 q i.toNat
      have hlv : (if op = 0 then re else -1 : Int) = if Op μ0 q i.toNat = 0 then Dp (μ0 (q + 1)) i.toNat else -1 := by
        rw [← ho]
        by_cases h9 : op = 0
        · rw [if_pos h9, if_pos h9]; show_term (have zq177 : True := trivial; omega)
        · rw [if_neg h9, if_neg h9]
      have w1 := ey i.toNat
      have w2 := em i.toNat
      have w3 := ey (μ0 (q + 2) i.toNat).toNat
      have hkd : (μ0 (q + 1) i.toNat = 515 ∧ (kd μ0 q i.toNat = 513 ∨ kd μ0 q i.toNat = 514)) ∨ (μ0 (q + 1) i.toNat ≠ 515 ∧ kd μ0 q i.toNat = μ0 (q + 1) i.toNat) := by
        unfold kd
        by_cases h9 : μ0 (q + 1) i.toNat = 515
        · obtain ⟨m_, m1_, m2_, m3_, m4_⟩ := gg_.2.2 h9
          rw [if_pos h9, m1_, Int.toNat_natCast]; exact Or.inl ⟨h9, m3_⟩
        · rw [if_neg h9]; exact Or.inr ⟨h9, rfl⟩
      refine lv_aload_n hx hb dX0_findLevels_17 rfl (lv_at hl 3 rfl) ?_
      refine lv_iload hx hb dX0_findLevels_18 (lv_at hl 0 rfl) ?_
      refine lv_iload hx hb dX0_findLevels_20 (lv_at hl 1 rfl) ?_
      have j30_ : ∀ (x30_0 : Int), (x30_0 = (if op = 0 then re else -1)) → W p l e R s m args below meth c H locs cells slots Q (F0 m 30 ls [.int (iZ (x30_0)), .int (iZ (i)), .ref (h0 + kc)]) := by
        intro x30_0 hj30_0
        refine fz_st (k := kc) (n := nc) (i := i) (z := x30_0) hx hb hK hP fA_in hS 0 (by show_term (have zq178 : True := trivial; omega)) hE rfl ⟨by show_term (have zq179 : True := trivial; omega), by show_term (have zq180 : True := trivial; omega)⟩ (by show_term (have zq181 : True := trivial; omega)) dX0_findLevels_30 (fun H locs hP hS => ?_)
        obtain ⟨μ1, eμ1⟩ : ∃ x : va_M, x = uz μ kc (i).toNat (x30_0) := ⟨_, rfl⟩
        rw [← eμ1] at hP
        have z1 : ∀ y, μ1 (q + 1) y = μ0 (q + 1) y := fun y => by rw [eμ1, uz_n (by show_term (have zq182 : True := trivial; omega))]; exact ey y
        have z2 : ∀ y, μ1 (q + 2) y = μ0 (q + 2) y := fun y => by rw [eμ1, uz_n (by show_term (have zq183 : True := trivial; omega))]; exact em y
        have z3 := z1 i.toNat
        have z4 := z2 i.toNat
        have z5 : μ1 q 5 = μ0 q 5 := by rw [eμ1, uz_n (by show_term (have zq184 : True := trivial; omega))]; exact x5
        have zf : fr (fun x _ => x = kc) μ0 μ1 := by rw [eμ1]; exact fr_uz hf rfl
        have zv : ∀ i9 : Nat, (i9 : Int) < i + 1 → μ1 kc i9 = if Op μ0 q i9 = 0 then Dp (μ0 (q + 1)) i9 else -1 := by
          intro i9 h9
          by_cases h8 : i9 = i.toNat
          · rw [eμ1, h8, uz_s]; exact (hj30_0).trans hlv
          · rw [eμ1, uz_n (by show_term (have zq185 : True := trivial; omega))]; exact hv i9 (by show_term (have zq186 : True := trivial; omega))
        refine lv_aload_n hx hb dX0_findLevels_31 rfl (lv_at hl 4 rfl) ?_
        refine fz_get (D := (dC, dI)) (ci := 4) (v := .ref (h0 + (q + 1))) (C := RX4) (T := TX4) (N := 8) hx hb hts inG4 hown hK hP (k := q) (by show_term (have zq187 : True := trivial; omega)) (F := (sRF h0 q)) (sE_rowO hq) rfl 0 (by decide) (hts _ k80) (fun _ h9 => h9) rfl dX0_findLevels_32 ?_
        refine lv_iload hx hb dX0_findLevels_35 (lv_at hl 0 rfl) ?_
        refine fz_ld (k := (q + 1)) (n := rm) hx hb hK hP 0 (by show_term (have zq188 : True := trivial; omega)) (sE_rowA (r := 1) hq (by decide)) rfl ⟨by show_term (have zq189 : True := trivial; omega), by show_term (have zq190 : True := trivial; omega)⟩ (by show_term (have zq191 : True := trivial; omega)) dX0_findLevels_37 ?_
        refine lv_sipush (v := iZ 515) hx hb dX0_findLevels_38 rfl ?_
        have j66_ : ∀ (x66_0 : Int), (x66_0 = kd μ0 q i.toNat) → W p l e R s m args below meth c H locs cells slots Q (F0 m 66 ls [.int (iZ (x66_0))]) := by
          intro x66_0 hj66_0
          refine lv_istore (lv' := [(6, .int (iZ (x66_0))), (5, .int (iZ (i))), (4, .int (iZ (op))), (3, .int (iZ (re))), (2, .ref (h0 + kc)), (1, .ref (h0 + q))]) hx hb dX0_findLevels_66 hl (by decide) rfl (fun ls hl => ?_)
          have hkb : 0 ≤ x66_0 ∧ x66_0 ≤ 515 := by rcases hkd with ⟨_, h⟩ | ⟨_, h⟩ <;> show_term (have zq192 : True := trivial; omega)
          refine lv_aload_n hx hb dX0_findLevels_68 rfl (lv_at hl 5 rfl) ?_
          refine fz_get (D := (dC, dI)) (ci := 4) (v := .ref (h0 + (q + 1))) (C := RX4) (T := TX4) (N := 8) hx hb hts inG4 hown hK hP (k := q) (by show_term (have zq193 : True := trivial; omega)) (F := (sRF h0 q)) (sE_rowO hq) rfl 0 (by decide) (hts _ k80) (fun _ h9 => h9) rfl dX0_findLevels_69 ?_
          refine lv_iload hx hb dX0_findLevels_72 (lv_at hl 1 rfl) ?_
          refine fz_ld (k := (q + 1)) (n := rm) hx hb hK hP 0 (by show_term (have zq194 : True := trivial; omega)) (sE_rowA (r := 1) hq (by decide)) rfl ⟨by show_term (have zq195 : True := trivial; omega), by show_term (have zq196 : True := trivial; omega)⟩ (by show_term (have zq197 : True := trivial; omega)) dX0_findLevels_74 ?_
          refine lv_sipush (v := iZ 515) hx hb dX0_findLevels_75 rfl ?_
          have j86_ : ∀ (x86_0 : Int), (x86_0 = (if μ0 (q + 1) i.toNat = 515 then -1 else 1)) → W p l e R s m args below meth c H locs cells slots Q (F0 m 86 ls [.int (iZ (x86_0))]) := by
            intro x86_0 hj86_0
            refine lv_istore (lv' := [(7, .int (iZ (x86_0))), (6, .int (iZ (x66_0))), (5, .int (iZ (i))), (4, .int (iZ (op))), (3, .int (iZ (re))), (2, .ref (h0 + kc)), (1, .ref (h0 + q))]) hx hb dX0_findLevels_86 hl (by decide) rfl (fun ls hl => ?_)
            have hxb : -1 ≤ x86_0 ∧ x86_0 ≤ 1 := by rw [hj86_0]; split <;> show_term (have zq198 : True := trivial; omega)
            refine lv_iload_n hx hb dX0_findLevels_88 rfl (lv_at hl 4 rfl) ?_
            refine lv_iload hx hb dX0_findLevels_89 (lv_at hl 1 rfl) ?_
            refine lv_sipush (v := iZ 514) hx hb dX0_findLevels_91 rfl ?_
            have j103_ : ∀ (x103_0 : Int), (x103_0 = (if x66_0 = 514 then x86_0 else 0)) → W p l e R s m args below meth c H locs cells slots Q (F0 m 103 ls [.int (iZ (x103_0)), .int (iZ (re))]) := by
              intro x103_0 hj103_0
              refine lv_iadd hx hb dX0_findLevels_103 ?_
              refine lv_topi (fun x9 ex9 => ?_)
              obtain rfl : x9 = iZ (re + x103_0) := ex9.trans (iZ_add _ _)
              refine lv_istore_n (lv' := [(3, .int (iZ (re + x103_0))), (7, .int (iZ (x86_0))), (6, .int (iZ (x66_0))), (5, .int (iZ (i))), (4, .int (iZ (op))), (2, .ref (h0 + kc)), (1, .ref (h0 + q))]) hx hb dX0_findLevels_104 rfl hl (by decide) rfl (fun ls hl => ?_)
              refine lv_iload hx hb dX0_findLevels_105 (lv_at hl 4 rfl) ?_
              refine lv_iload hx hb dX0_findLevels_107 (lv_at hl 2 rfl) ?_
              refine lv_sipush (v := iZ 513) hx hb dX0_findLevels_109 rfl ?_
              have j121_ : ∀ (x121_0 : Int), (x121_0 = (if x66_0 = 513 then x86_0 else 0)) → W p l e R s m args below meth c H locs cells slots Q (F0 m 121 ls [.int (iZ (x121_0)), .int (iZ (op))]) := by
                intro x121_0 hj121_0
                refine lv_iadd hx hb dX0_findLevels_121 ?_
                refine lv_topi (fun x9 ex9 => ?_)
                obtain rfl : x9 = iZ (op + x121_0) := ex9.trans (iZ_add _ _)
                refine lv_istore (lv' := [(4, .int (iZ (op + x121_0))), (3, .int (iZ (re + x103_0))), (7, .int (iZ (x86_0))), (6, .int (iZ (x66_0))), (5, .int (iZ (i))), (2, .ref (h0 + kc)), (1, .ref (h0 + q))]) hx hb dX0_findLevels_122 hl (by decide) rfl (fun ls hl => ?_)
                obtain ⟨s1_, s2_, s3_⟩ := lv_sum (b := x103_0) (c := x121_0) hkd hj86_0 (by rw [← hj66_0]; exact hj103_0) (by rw [← hj66_0]; exact hj121_0)
                refine lv_iinc (v := iZ (i + 1)) (lv' := [(5, .int (iZ (i + 1))), (4, .int (iZ (op + x121_0))), (3, .int (iZ (re + x103_0))), (7, .int (iZ (x86_0))), (6, .int (iZ (x66_0))), (2, .ref (h0 + kc)), (1, .ref (h0 + q))]) hx hb dX0_findLevels_124 hl (k := 4) rfl (iZ_add _ _) (by decide) rfl (fun ls hl => ?_)
                refine lv_goto (tgt := 8) hx hb dX0_findLevels_127 (by decide) ?_
                exact ih (i + 1) (re + x103_0) (op + x121_0) μ1 H locs ls (by show_term (have zq199 : True := trivial; omega)) (by exact zf) (by rw [show (i + 1).toNat = i.toNat + 1 by show_term (have zq200 : True := trivial; omega), hO, ← s2_, ho]) (by rw [show (i + 1).toNat = i.toNat + 1 by show_term (have zq201 : True := trivial; omega), hD]; show_term (have zq202 : True := trivial; omega)) (by show_term (have zq203 : True := trivial; omega)) (by exact zv) (by show_term (have zq204 : True := trivial; omega)) hP hS (lv_sub hl [0, 1, 2, 5, 6] rfl)
              refine fz_icmp_ne (tgt := 120) (by constructor <;> show_term (have zq205 : True := trivial; omega)) (by decide) hx hb dX0_findLevels_112 (by decide) (fun c112_ => ?_) (fun c112_ => ?_)
              · refine lv_iconst (v := iZ 0) hx hb dX0_findLevels_120 rfl ?_
                exact j121_ (0) (by rw [if_neg (by show_term (have zq206 : True := trivial; omega))])
              · refine lv_iload hx hb dX0_findLevels_115 (lv_at hl 1 rfl) ?_
                refine lv_goto (tgt := 121) hx hb dX0_findLevels_117 (by decide) ?_
                exact j121_ (x86_0) (by rw [if_pos (by show_term (have zq207 : True := trivial; omega))])
            refine fz_icmp_ne (tgt := 102) (by constructor <;> show_term (have zq208 : True := trivial; omega)) (by decide) hx hb dX0_findLevels_94 (by decide) (fun c94_ => ?_) (fun c94_ => ?_)
            · refine lv_iconst (v := iZ 0) hx hb dX0_findLevels_102 rfl ?_
              exact j103_ (0) (by rw [if_neg (by show_term (have zq209 : True := trivial; omega))])
            · refine lv_iload hx hb dX0_findLevels_97 (lv_at hl 0 rfl) ?_
              refine lv_goto (tgt := 103) hx hb dX0_findLevels_99 (by decide) ?_
              exact j103_ (x86_0) (by rw [if_pos (by show_term (have zq210 : True := trivial; omega))])
          refine fz_icmp_ne (tgt := 85) (by constructor <;> show_term (have zq211 : True := trivial; omega)) (by decide) hx hb dX0_findLevels_78 (by decide) (fun c78_ => ?_) (fun c78_ => ?_)
          · refine lv_iconst (v := iZ 1) hx hb dX0_findLevels_85 rfl ?_
            exact j86_ (1) (by rw [if_neg (by show_term (have zq212 : True := trivial; omega))])
          · refine lv_iconst (v := iZ (-1)) hx hb dX0_findLevels_81 rfl ?_
            refine lv_goto (tgt := 86) hx hb dX0_findLevels_82 (by decide) ?_
            exact j86_ ((-1)) (by rw [if_pos (by show_term (have zq213 : True := trivial; omega))])
        refine fz_icmp_ne (tgt := 59) (by constructor <;> show_term (have zq214 : True := trivial; omega)) (by decide) hx hb dX0_findLevels_41 (by decide) (fun c41_ => ?_) (fun c41_ => ?_)
        · refine lv_aload_n hx hb dX0_findLevels_59 rfl (lv_at hl 4 rfl) ?_
          refine fz_get (D := (dC, dI)) (ci := 4) (v := .ref (h0 + (q + 1))) (C := RX4) (T := TX4) (N := 8) hx hb hts inG4 hown hK hP (k := q) (by show_term (have zq215 : True := trivial; omega)) (F := (sRF h0 q)) (sE_rowO hq) rfl 0 (by decide) (hts _ k80) (fun _ h9 => h9) rfl dX0_findLevels_60 ?_
          refine lv_iload hx hb dX0_findLevels_63 (lv_at hl 0 rfl) ?_
          refine fz_ld (k := (q + 1)) (n := rm) hx hb hK hP 0 (by show_term (have zq216 : True := trivial; omega)) (sE_rowA (r := 1) hq (by decide)) rfl ⟨by show_term (have zq217 : True := trivial; omega), by show_term (have zq218 : True := trivial; omega)⟩ (by show_term (have zq219 : True := trivial; omega)) dX0_findLevels_65 ?_
          exact j66_ (μ1 (q + 1) (i).toNat) (by unfold kd; rw [if_neg (by show_term (have zq220 : True := trivial; omega)), z1])
        · refine lv_aload_n hx hb dX0_findLevels_44 rfl (lv_at hl 4 rfl) ?_
          refine fz_get (D := (dC, dI)) (ci := 4) (v := .ref (h0 + (q + 1))) (C := RX4) (T := TX4) (N := 8) hx hb hts inG4 hown hK hP (k := q) (by show_term (have zq221 : True := trivial; omega)) (F := (sRF h0 q)) (sE_rowO hq) rfl 0 (by decide) (hts _ k80) (fun _ h9 => h9) rfl dX0_findLevels_45 ?_
          refine lv_aload_n hx hb dX0_findLevels_48 rfl (lv_at hl 4 rfl) ?_
          refine fz_get (D := (dC, dI)) (ci := 4) (v := .ref (h0 + (q + 2))) (C := RX4) (T := TX4) (N := 8) hx hb hts inG4 hown hK hP (k := q) (by show_term (have zq222 : True := trivial; omega)) (F := (sRF h0 q)) (sE_rowO hq) rfl 1 (by decide) (hts _ k85) (fun _ h9 => h9) rfl dX0_findLevels_49 ?_
          refine lv_iload hx hb dX0_findLevels_52 (lv_at hl 0 rfl) ?_
          refine fz_ld (k := (q + 2)) (n := rm) hx hb hK hP 0 (by show_term (have zq223 : True := trivial; omega)) (sE_rowA (r := 2) hq (by decide)) rfl ⟨by show_term (have zq224 : True := trivial; omega), by show_term (have zq225 : True := trivial; omega)⟩ (by show_term (have zq226 : True := trivial; omega)) dX0_findLevels_54 ?_
          refine fz_ld (k := (q + 1)) (n := rm) hx hb hK hP 0 (by show_term (have zq227 : True := trivial; omega)) (sE_rowA (r := 1) hq (by decide)) rfl ⟨by show_term (have zq228 : True := trivial; omega), by show_term (have zq229 : True := trivial; omega)⟩ (by show_term (have zq230 : True := trivial; omega)) dX0_findLevels_55 ?_
          refine lv_goto (tgt := 66) hx hb dX0_findLevels_56 (by decide) ?_
          exact j66_ (μ1 (q + 1) (μ1 (q + 2) (i).toNat).toNat) (by unfold kd; rw [if_pos (by show_term (have zq231 : True := trivial; omega)), z1, z2])
      refine fz_if_ne (tgt := 29) (by constructor <;> show_term (have zq232 : True := trivial; omega)) hx hb dX0_findLevels_22 (by decide) (fun c22_ => ?_) (fun c22_ => ?_)
      · refine lv_iconst (v := iZ (-1)) hx hb dX0_findLevels_29 rfl ?_
        exact j30_ ((-1)) (by first | (rw [if_pos (by show_term (have zq233 : True := trivial; omega))]) | (rw [if_neg (by show_term (have zq234 : True := trivial; omega))]))
      · refine lv_iload_n hx hb dX0_findLevels_25 rfl (lv_at hl 2 rfl) ?_
        refine lv_goto (tgt := 30) hx hb dX0_findLevels_26 (by decide) ?_
        exact j30_ (re) (by first | (rw [if_pos (by show_term (have zq235 : True := trivial; omega))]) | (rw [if_neg (by show_term (have zq236 : True := trivial; omega))]))
set_option maxHeartbeats 4000000 in
set_option maxRecDepth 100000 in
theorem s_YfindLevels (l : Launch) (dC : Nat → ClassId) (dI : Nat → Nat → Nat) (cI cZ cII cIII : ClassId) (h0 sz : Nat) (μ : va_M) (q : Nat) (rm : Nat) (kc : Nat) (nc : Nat) (hq : rowB q rm) (hG : rG μ q rm) (hkc : (kc = 43 ∨ kc = 44) ∧ nc = 1101) (hE : ∀ f, sE cI cZ cII cIII h0 kc f = .inl (cI, nc, .inl f)) : Met l yX0_findLevels (Cond.code yX0_findLevels cX0_findLevels 8 none :: wsG) ({ frames := 1, cells := 0, slots := 0, locals := 14 } : Room) (va_Pc [.ref (h0 + 41), .ref (h0 + q), .ref (h0 + kc)] (fun U => U.heap.size = sz ∧ va_P (dC, dI) vwCl (fw (sE cI cZ cII cIII h0) h0 233 μ) U.heap ∧ va_K (dC, dI) vwCl (sT cI cZ cII cIII) U ∧ xM U)) (va_Qv (fun (u : va_M) => fr (fun x _ => x = kc) μ u ∧ ∀ i9 : Nat, (i9 : Int) ≤ μ q 5 → u kc i9 = if Op μ q i9 = 0 then Dp (μ (q + 1)) i9 else -1) (fun u t => va_P (dC, dI) vwCl (fw (sE cI cZ cII cIII h0) h0 233 u) t.heap ∧ va_K (dC, dI) vwCl (sT cI cZ cII cIII) t) (fA h0 233 sz)) 0 0 (fA h0 233 sz) := by
  refine Met.ofW (cc := cX0_findLevels) (maxL := 8) (ret := none) (by decide) rfl ?_
  intro p e s m args below meth c s₁ B hml hv
  obtain ⟨rfl, hsz, hP, hK, hM⟩ := hv
  have hx := B.exec
  have hb := B.bytes
  have hr := B.returns
  have hts : ∀ w ∈ wsG, w.before _ s = true := hG_of (atoms_spec (ws := (Cond.code yX0_findLevels cX0_findLevels 8 none :: wsG)) B.pre)
  have hown : s.vm.findClass RX0 = some m.cls := findClass_of_methodNamed B.named
  have hlocks := B.notSynchronized
  subst hsz
  have hS : va_S (fA h0 233 s.heap.size) s.heap s.heap [] := va_S.rf
  have hl := lv_entry ([.ref (h0 + 41), .ref (h0 + q), .ref (h0 + kc)]) (n := 8) (Nat.le_of_ble_eq_true rfl)
  rw [lg_entry_eq]
  generalize (lg_sl ([.ref (h0 + 41), .ref (h0 + q), .ref (h0 + kc)]) ++ List.replicate (8 - (lg_sl ([.ref (h0 + 41), .ref (h0 + q), .ref (h0 + kc)])).length) Slot.unset).toArray = ls at hl ⊢
  have hl : lv_has ls 8 [(0, .ref (h0 + 41)), (1, .ref (h0 + q)), (2, .ref (h0 + kc))] := hl
  have hqb := rowB_b hq
  have hrm := rG_rm hq hG
  have hqb := rowB_b hq
  have hqf : q + 6 ≤ 18 ∨ 80 ≤ q := by rcases hq with h | h | ⟨i, h1, h2, h3⟩ | ⟨i, h1, h2, h3⟩ <;> show_term (have zq237 : True := trivial; omega)
  refine lv_iconst (v := iZ 0) hx hb dX0_findLevels_0 rfl ?_
  refine lv_istore_n (lv' := [(3, .int (iZ (0))), (0, .ref (h0 + 41)), (1, .ref (h0 + q)), (2, .ref (h0 + kc))]) hx hb dX0_findLevels_1 rfl hl (by decide) rfl (fun ls hl => ?_)
  refine lv_iconst (v := iZ 0) hx hb dX0_findLevels_2 rfl ?_
  refine lv_istore (lv' := [(4, .int (iZ (0))), (3, .int (iZ (0))), (0, .ref (h0 + 41)), (1, .ref (h0 + q)), (2, .ref (h0 + kc))]) hx hb dX0_findLevels_3 hl (by decide) rfl (fun ls hl => ?_)
  refine lv_iconst (v := iZ 0) hx hb dX0_findLevels_5 rfl ?_
  refine lv_istore (lv' := [(5, .int (iZ (0))), (4, .int (iZ (0))), (3, .int (iZ (0))), (0, .ref (h0 + 41)), (1, .ref (h0 + q)), (2, .ref (h0 + kc))]) hx hb dX0_findLevels_6 hl (by decide) rfl (fun ls hl => ?_)
  refine LX0_findLevels_8 hx hb hml hown hts hK hM (Nat.le_of_ble_eq_true rfl) (Nat.le_of_ble_eq_true rfl) (Nat.le_of_ble_eq_true rfl) (Nat.le_of_ble_eq_true rfl) (μ) (q) (rm) (kc) (nc) (by assumption) (by exact hG) (by assumption) (by assumption) ?_ _ (0) (0) (0) μ s.heap [] ls (by show_term (have zq238 : True := trivial; omega)) (by exact fr_rfl) (by rfl) (by rfl) (by decide) (by intro i9 h9; show_term (have zq239 : True := trivial; omega)) (Nat.lt_succ_self _) hP hS (lv_sub hl [0, 1, 2, 5, 4] rfl)
  · intro i_2 re_2 op_2 μ2_ H locs ls q1_2 q2_2 hP hS hl
    have hl : lv_has ls 8 [(2, .ref (h0 + kc)), (1, .ref (h0 + q))] := hl
    have x5 : μ2_ q 5 = μ q 5 := q1_2 _ _ (by show_term (have zq240 : True := trivial; omega))
    refine lv_aload_n hx hb dX0_findLevels_130 rfl (lv_at hl 0 rfl) ?_
    refine lv_aload_n hx hb dX0_findLevels_131 rfl (lv_at hl 1 rfl) ?_
    refine fz_get (D := (dC, dI)) (ci := 4) (v := .int (iZ (μ2_ q 5))) (C := RX4) (T := TX4) (N := 8) hx hb hts inG4 hown hK hP (k := q) (by show_term (have zq241 : True := trivial; omega)) (F := (sRF h0 q)) (sE_rowO hq) rfl 5 (by decide) (hts _ k94) (fun _ h9 => h9) rfl dX0_findLevels_132 ?_
    refine lv_iconst (v := iZ 0) hx hb dX0_findLevels_135 rfl ?_
    refine fz_st (k := kc) (n := nc) (i := (μ2_ q 5)) (z := 0) hx hb hK hP fA_in hS 0 (by show_term (have zq242 : True := trivial; omega)) hE rfl ⟨by show_term (have zq243 : True := trivial; omega), by show_term (have zq244 : True := trivial; omega)⟩ (by show_term (have zq245 : True := trivial; omega)) dX0_findLevels_136 (fun H locs hP hS => ?_)
    obtain ⟨μ3, eμ3⟩ : ∃ x : va_M, x = uz μ2_ kc (μ2_ q 5).toNat (0) := ⟨_, rfl⟩
    rw [← eμ3] at hP
    exact W.vret hx hb hr (fun t9 ht9 hW9 => ⟨⟨μ3, rfl, (by
                try dsimp only
                have no := Op_nn hG
                have nb := rG_bal hG
                refine ⟨by rw [eμ3]; exact fr_uz q1_2 rfl, fun i9 h9 => ?_⟩
                by_cases h8 : i9 = (μ2_ q 5).toNat
                · rw [eμ3, h8, uz_s, x5, no.1, if_pos rfl, nb.1]
                · rw [eμ3, uz_n (by show_term (have zq246 : True := trivial; omega))]; exact q2_2 i9 (by show_term (have zq247 : True := trivial; omega))), by rw [ht9]; exact hP, va_K.moved hW9.alike hK⟩, hS.F ht9⟩) hS.2.2 dX0_findLevels_137

set_option maxRecDepth 100000 in
theorem k419 : (Cond.static ({ cls := "PageSkeleton", name := "isLeaf", desc := "(I)Z" } : MethodName)) ∈ wsG := wsG_a2 179 rfl rfl
set_option maxRecDepth 100000 in
theorem k420 : (Cond.code ({ cls := "PageSkeleton", name := "isLeaf", desc := "(I)Z" } : MethodName) prog_1_method_55_code (1 : Nat) (Option.some FieldType.boolean)) ∈ wsG := wsG_a2 180 rfl rfl
set_option maxRecDepth 100000 in
theorem k422 : (Cond.static ({ cls := "PageSkeleton", name := "isOpen", desc := "(I)Z" } : MethodName)) ∈ wsG := wsG_a2 182 rfl rfl
set_option maxRecDepth 100000 in
theorem k423 : (Cond.code ({ cls := "PageSkeleton", name := "isOpen", desc := "(I)Z" } : MethodName) prog_1_method_56_code (1 : Nat) (Option.some FieldType.boolean)) ∈ wsG := wsG_a2 183 rfl rfl
theorem dX4_seal_35 : decode cX4_seal 35 = .ok (.iload_n 2, 1) := by decide +kernel
theorem dX4_seal_36 : decode cX4_seal 36 = .ok (.aload_n 0, 1) := by decide +kernel
theorem dX4_seal_37 : decode cX4_seal 37 = .ok (.getfield 9, 3) := by decide +kernel
theorem dX4_seal_40 : decode cX4_seal 40 = .ok (.if_icmp .ge 135, 3) := by decide +kernel
theorem dX4_seal_43 : decode cX4_seal 43 = .ok (.aload_n 0, 1) := by decide +kernel
theorem dX4_seal_44 : decode cX4_seal 44 = .ok (.getfield 28, 3) := by decide +kernel
theorem dX4_seal_47 : decode cX4_seal 47 = .ok (.iload_n 2, 1) := by decide +kernel
theorem dX4_seal_48 : decode cX4_seal 48 = .ok (.iaload, 1) := by decide +kernel
theorem dX4_seal_49 : decode cX4_seal 49 = .ok (.istore_n 3, 1) := by decide +kernel
theorem dX4_seal_50 : decode cX4_seal 50 = .ok (.aload_n 0, 1) := by decide +kernel
theorem dX4_seal_51 : decode cX4_seal 51 = .ok (.getfield 35, 3) := by decide +kernel
theorem dX4_seal_54 : decode cX4_seal 54 = .ok (.iload_n 2, 1) := by decide +kernel
theorem dX4_seal_55 : decode cX4_seal 55 = .ok (.iconst 1, 1) := by decide +kernel
theorem dX4_seal_56 : decode cX4_seal 56 = .ok (.iadd, 1) := by decide +kernel
theorem dX4_seal_57 : decode cX4_seal 57 = .ok (.aload_n 0, 1) := by decide +kernel
theorem dX4_seal_58 : decode cX4_seal 58 = .ok (.getfield 35, 3) := by decide +kernel
theorem dX4_seal_61 : decode cX4_seal 61 = .ok (.iload_n 2, 1) := by decide +kernel
theorem dX4_seal_62 : decode cX4_seal 62 = .ok (.iaload, 1) := by decide +kernel
theorem dX4_seal_63 : decode cX4_seal 63 = .ok (.iload_n 3, 1) := by decide +kernel
theorem dX4_seal_64 : decode cX4_seal 64 = .ok (.invokestatic 58, 3) := by decide +kernel
theorem dX4_seal_67 : decode cX4_seal 67 = .ok (.ifCond .eq 7, 3) := by decide +kernel
theorem dX4_seal_70 : decode cX4_seal 70 = .ok (.iconst 1, 1) := by decide +kernel
theorem dX4_seal_71 : decode cX4_seal 71 = .ok (.goto 4, 3) := by decide +kernel
theorem dX4_seal_74 : decode cX4_seal 74 = .ok (.iconst 0, 1) := by decide +kernel
theorem dX4_seal_75 : decode cX4_seal 75 = .ok (.iadd, 1) := by decide +kernel
theorem dX4_seal_76 : decode cX4_seal 76 = .ok (.iastore, 1) := by decide +kernel
theorem dX4_seal_77 : decode cX4_seal 77 = .ok (.aload_n 0, 1) := by decide +kernel
theorem dX4_seal_78 : decode cX4_seal 78 = .ok (.getfield 38, 3) := by decide +kernel
theorem dX4_seal_81 : decode cX4_seal 81 = .ok (.iload_n 2, 1) := by decide +kernel
theorem dX4_seal_82 : decode cX4_seal 82 = .ok (.aload_n 0, 1) := by decide +kernel
theorem dX4_seal_83 : decode cX4_seal 83 = .ok (.getfield 15, 3) := by decide +kernel
theorem dX4_seal_86 : decode cX4_seal 86 = .ok (.iastore, 1) := by decide +kernel
theorem dX4_seal_87 : decode cX4_seal 87 = .ok (.aload_n 0, 1) := by decide +kernel
theorem dX4_seal_88 : decode cX4_seal 88 = .ok (.getfield 32, 3) := by decide +kernel
theorem dX4_seal_91 : decode cX4_seal 91 = .ok (.iload_n 2, 1) := by decide +kernel
theorem dX4_seal_92 : decode cX4_seal 92 = .ok (.iload_n 2, 1) := by decide +kernel
theorem dX4_seal_93 : decode cX4_seal 93 = .ok (.iastore, 1) := by decide +kernel
theorem dX4_seal_94 : decode cX4_seal 94 = .ok (.iload_n 3, 1) := by decide +kernel
theorem dX4_seal_95 : decode cX4_seal 95 = .ok (.sipush 515, 3) := by decide +kernel
theorem dX4_seal_98 : decode cX4_seal 98 = .ok (.if_icmp .ne 35, 3) := by decide +kernel
theorem dX4_seal_101 : decode cX4_seal 101 = .ok (.iload_n 1, 1) := by decide +kernel
theorem dX4_seal_102 : decode cX4_seal 102 = .ok (.ifCond .lt 67, 3) := by decide +kernel
theorem dX4_seal_105 : decode cX4_seal 105 = .ok (.aload_n 0, 1) := by decide +kernel
theorem dX4_seal_106 : decode cX4_seal 106 = .ok (.getfield 32, 3) := by decide +kernel
theorem dX4_seal_109 : decode cX4_seal 109 = .ok (.iload_n 1, 1) := by decide +kernel
theorem dX4_seal_110 : decode cX4_seal 110 = .ok (.iaload, 1) := by decide +kernel
theorem dX4_seal_111 : decode cX4_seal 111 = .ok (.istore 4, 2) := by decide +kernel
theorem dX4_seal_113 : decode cX4_seal 113 = .ok (.aload_n 0, 1) := by decide +kernel
theorem dX4_seal_114 : decode cX4_seal 114 = .ok (.getfield 32, 3) := by decide +kernel
theorem dX4_seal_117 : decode cX4_seal 117 = .ok (.iload_n 2, 1) := by decide +kernel
theorem dX4_seal_118 : decode cX4_seal 118 = .ok (.iload_n 1, 1) := by decide +kernel
theorem dX4_seal_119 : decode cX4_seal 119 = .ok (.iastore, 1) := by decide +kernel
theorem dX4_seal_120 : decode cX4_seal 120 = .ok (.aload_n 0, 1) := by decide +kernel
theorem dX4_seal_121 : decode cX4_seal 121 = .ok (.getfield 32, 3) := by decide +kernel
theorem dX4_seal_124 : decode cX4_seal 124 = .ok (.iload_n 1, 1) := by decide +kernel
theorem dX4_seal_125 : decode cX4_seal 125 = .ok (.iload_n 2, 1) := by decide +kernel
theorem dX4_seal_126 : decode cX4_seal 126 = .ok (.iastore, 1) := by decide +kernel
theorem dX4_seal_127 : decode cX4_seal 127 = .ok (.iload 4, 2) := by decide +kernel
theorem dX4_seal_129 : decode cX4_seal 129 = .ok (.istore_n 1, 1) := by decide +kernel
theorem dX4_seal_130 : decode cX4_seal 130 = .ok (.goto 39, 3) := by decide +kernel
theorem dX4_seal_133 : decode cX4_seal 133 = .ok (.aload_n 0, 1) := by decide +kernel
theorem dX4_seal_134 : decode cX4_seal 134 = .ok (.getfield 41, 3) := by decide +kernel
theorem dX4_seal_137 : decode cX4_seal 137 = .ok (.aload_n 0, 1) := by decide +kernel
theorem dX4_seal_138 : decode cX4_seal 138 = .ok (.getfield 15, 3) := by decide +kernel
theorem dX4_seal_141 : decode cX4_seal 141 = .ok (.iload_n 2, 1) := by decide +kernel
theorem dX4_seal_142 : decode cX4_seal 142 = .ok (.iastore, 1) := by decide +kernel
theorem dX4_seal_143 : decode cX4_seal 143 = .ok (.aload_n 0, 1) := by decide +kernel
theorem dX4_seal_144 : decode cX4_seal 144 = .ok (.dup, 1) := by decide +kernel
theorem dX4_seal_145 : decode cX4_seal 145 = .ok (.getfield 15, 3) := by decide +kernel
theorem dX4_seal_148 : decode cX4_seal 148 = .ok (.iconst 1, 1) := by decide +kernel
theorem dX4_seal_149 : decode cX4_seal 149 = .ok (.iadd, 1) := by decide +kernel
theorem dX4_seal_150 : decode cX4_seal 150 = .ok (.putfield 15, 3) := by decide +kernel
theorem dX4_seal_153 : decode cX4_seal 153 = .ok (.iload_n 3, 1) := by decide +kernel
theorem dX4_seal_154 : decode cX4_seal 154 = .ok (.invokestatic 62, 3) := by decide +kernel
theorem dX4_seal_157 : decode cX4_seal 157 = .ok (.ifCond .eq 12, 3) := by decide +kernel
theorem dX4_seal_160 : decode cX4_seal 160 = .ok (.aload_n 0, 1) := by decide +kernel
theorem dX4_seal_161 : decode cX4_seal 161 = .ok (.getfield 32, 3) := by decide +kernel
theorem dX4_seal_164 : decode cX4_seal 164 = .ok (.iload_n 2, 1) := by decide +kernel
theorem dX4_seal_165 : decode cX4_seal 165 = .ok (.iload_n 1, 1) := by decide +kernel
theorem dX4_seal_166 : decode cX4_seal 166 = .ok (.iastore, 1) := by decide +kernel
theorem dX4_seal_167 : decode cX4_seal 167 = .ok (.iload_n 2, 1) := by decide +kernel
theorem dX4_seal_168 : decode cX4_seal 168 = .ok (.istore_n 1, 1) := by decide +kernel
theorem dX4_seal_169 : decode cX4_seal 169 = .ok (.iinc 2 1, 3) := by decide +kernel
theorem dX4_seal_172 : decode cX4_seal 172 = .ok (.goto (-137), 3) := by decide +kernel
/-! a row as a line of signs; sealed -/
def sG (k : Nat) (v : Int) : Int := if k = 0 then v else if k = 1 then 256 + v else 510 + k
def sL : Rw → Nat
  | .leaf => 0
  | .inner _ k _ l r => (if k < 3 then 1 else 2 + sL l) + sL r
/-- the row stands in the signs of cell c from place p on -/
def SA (μ : va_M) (c : Nat) : Rw → Nat → Prop
  | .leaf, _ => True
  | .inner _ k v l r, p => μ c p = sG k v ∧ (3 ≤ k → SA μ c l (p + 1) ∧ μ c (p + 1 + sL l) = 515) ∧ SA μ c r (p + (if k < 3 then 1 else 2 + sL l))
/-- what is told of its places: mates, leaves ahead, nodes -/
def SS (μ : va_M) (q : Nat) : Rw → Nat → Nat → Nat → Prop
  | .leaf, _, _, _ => True
  | .inner _ k _ l r, p, a, n => (μ (q + 2) p = ((if k < 3 then p else p + 1 + sL l : Nat) : Int) ∧ μ (q + 3) p = a ∧ μ (q + 4) p = n ∧ μ (q + 5) n = p) ∧ (3 ≤ k → SS μ q l (p + 1) a (n + 1) ∧ μ (q + 2) (p + 1 + sL l) = p ∧ μ (q + 3) (p + 1 + sL l) = ((a + rL l : Nat) : Int) ∧ μ (q + 4) (p + 1 + sL l) = ((n + 1 + rN l : Nat) : Int)) ∧ SS μ q r (p + (if k < 3 then 1 else 2 + sL l)) (a + (if k < 3 then 1 else 0) + rL l) (n + 1 + rN l)
def SQ (q p p2 n n2 x y : Nat) : Prop := (x = q + 2 ∧ p ≤ y ∧ y < p2) ∨ (x = q + 3 ∧ p < y ∧ y ≤ p2) ∨ (x = q + 4 ∧ p ≤ y ∧ y < p2) ∨ (x = q + 5 ∧ n ≤ y ∧ y < n2) ∨ (x = q ∧ y = 6)
theorem SA_fr {μ u : va_M} {c : Nat} (h : ∀ y, u c y = μ c y) : ∀ (w : Rw) (p : Nat), SA μ c w p → SA u c w p
  | .leaf, _, _ => trivial
  | .inner _ _ _ l r, _, ⟨h1, h2, h3⟩ => ⟨(h _).trans h1, fun h9 => ⟨SA_fr h l _ (h2 h9).1, (h _).trans (h2 h9).2⟩, SA_fr h r _ h3⟩
theorem sL_d (k : Nat) (l : Rw) : ∃ d, (if k < 3 then 1 else 2 + sL l) = d ∧ 1 ≤ d ∧ (3 ≤ k → d = 2 + sL l) := ⟨_, rfl, by split <;> show_term (have zq0 : True := trivial; omega), fun h => if_neg (by show_term (have zq1 : True := trivial; omega))⟩
theorem SS_fr {μ u : va_M} {q : Nat} : ∀ (w : Rw) (p a n : Nat), SS μ q w p a n → (∀ y, p ≤ y → y < p + sL w → u (q + 2) y = μ (q + 2) y ∧ u (q + 3) y = μ (q + 3) y ∧ u (q + 4) y = μ (q + 4) y) → (∀ y, n ≤ y → y < n + rN w → u (q + 5) y = μ (q + 5) y) → SS u q w p a n
  | .leaf, _, _, _, _, _, _ => trivial
  | .inner z k v l r, p, a, n, ⟨⟨h1, h2, h3, h4⟩, h5, h6⟩, hf, hg => by
    obtain ⟨d, hd, hd1, hd2⟩ := sL_d k l
    have hs : sL (Std.DTreeMap.Internal.Impl.inner z k v l r : Rw) = d + sL r := by rw [sL, hd]
    have hn : rN (Std.DTreeMap.Internal.Impl.inner z k v l r : Rw) = 1 + rN l + rN r := rfl
    rw [hs] at hf
    rw [hn] at hg
    unfold SS
    rw [hd] at h6 ⊢
    have f0 := hf p (by show_term (have zq2 : True := trivial; omega)) (by show_term (have zq3 : True := trivial; omega))
    refine ⟨⟨f0.1.trans h1, f0.2.1.trans h2, f0.2.2.trans h3, (hg n (by show_term (have zq4 : True := trivial; omega)) (by show_term (have zq5 : True := trivial; omega))).trans h4⟩, fun h9 => ?_, SS_fr r _ _ _ h6 (fun y q1 q2 => hf y (by show_term (have zq6 : True := trivial; omega)) (by show_term (have zq7 : True := trivial; omega))) (fun y q1 q2 => hg y (by show_term (have zq8 : True := trivial; omega)) (by show_term (have zq9 : True := trivial; omega)))⟩
    have hd3 := hd2 h9
    obtain ⟨g1, g2, g3, g4⟩ := h5 h9
    have f1 := hf (p + 1 + sL l) (by show_term (have zq10 : True := trivial; omega)) (by show_term (have zq11 : True := trivial; omega))
    exact ⟨SS_fr l _ _ _ g1 (fun y q1 q2 => hf y (by show_term (have zq12 : True := trivial; omega)) (by show_term (have zq13 : True := trivial; omega))) (fun y q1 q2 => hg y (by show_term (have zq14 : True := trivial; omega)) (by show_term (have zq15 : True := trivial; omega))), f1.1.trans g2, f1.2.1.trans g3, f1.2.2.trans g4⟩
def iW0 (k : Nat) (v : Int) (l : Rw) : Prop := k ≤ 4 ∧ (k < 3 → l = .leaf) ∧ -1 ≤ v ∧ v < 200 ∧ (k < 2 → 0 ≤ v)
/-- well formed, but that an option or a repeat may be empty -/
def rW0 : Rw → Prop
  | .leaf => True
  | .inner _ k v l r => iW0 k v l ∧ rW0 l ∧ rW0 r
theorem sG_b {k : Nat} {v : Int} {l : Rw} (h : iW0 k v l) : (k < 3 → 0 ≤ sG k v ∧ sG k v ≤ 512) ∧ (k = 3 → sG k v = 513) ∧ (k = 4 → sG k v = 514) := by
  obtain ⟨h1, h2, h4, h5, h6⟩ := h
  unfold sG
  refine ⟨fun h9 => ?_, fun h9 => by subst h9; rfl, fun h9 => by subst h9; rfl⟩
  split
  · have := h6 (by show_term (have zq16 : True := trivial; omega)); show_term (have zq17 : True := trivial; omega)
  · split
    · have := h6 (by show_term (have zq18 : True := trivial; omega)); show_term (have zq19 : True := trivial; omega)
    · show_term (have zq20 : True := trivial; omega)

set_option maxHeartbeats 4000000 in
set_option maxRecDepth 100000 in
theorem TX4_seal_35 {p : Program} {l : Launch} {e : Env} {R : Room} {s : State} {m : MethodId} {args : Array Value} {below : List Frame} {meth : Method} {c : Code} {cells slots : Nat} {Q : State → Prop} {dC : Nat → ClassId} {dI : Nat → Nat → Nat} {h0 : Nat} {cI cZ cII cIII : ClassId} (hx : p.tables.exec = Jvm.exec) (hb : c.code = cX4_seal) (hml : c.maxLocals = 5) (hown : s.vm.findClass RX4 = some m.cls) (hts : ∀ w ∈ wsG, w.before args s = true) (hK : va_K (dC, dI) vwCl (sT cI cZ cII cIII) s) (hM : xM s) (hRf : 2 ≤ R.frames) (hRl : 34 ≤ R.locals) (hRc : cells ≤ R.cells) (hRs : slots ≤ R.slots) (μ0 : va_M) (i0 : Int) (o0 : Int) (q : Nat) (rm : Nat) (hq : rowB q rm) (hlen : 0 ≤ μ0 q 5 ∧ μ0 q 5 ≤ rm) (hexit35 : ∀ (i : Int) (op : Int) (μ : va_M) (H : Heap) (locs : List Loc) (ls : Array Slot), (i = i0 + 1) → (μ0 (q + 1) i0.toNat ≤ 512 → op = o0 ∧ μ = uz (uz (uz (uz (uz μ0 (q + 3) (i0 + 1).toNat (μ0 (q + 3) i0.toNat + 1)) (q + 4) i0.toNat (μ0 q 6)) (q + 2) i0.toNat i0) (q + 5) (μ0 q 6).toNat i0) q 6 (μ0 q 6 + 1)) → (μ0 (q + 1) i0.toNat = 513 ∨ μ0 (q + 1) i0.toNat = 514 → op = i0 ∧ μ = uz (uz (uz (uz (uz (uz μ0 (q + 3) (i0 + 1).toNat (μ0 (q + 3) i0.toNat + 0)) (q + 4) i0.toNat (μ0 q 6)) (q + 2) i0.toNat i0) (q + 5) (μ0 q 6).toNat i0) q 6 (μ0 q 6 + 1)) (q + 2) i0.toNat o0) → (μ0 (q + 1) i0.toNat = 515 → 0 ≤ o0 → op = μ0 (q + 2) o0.toNat ∧ μ = uz (uz (uz (uz (uz μ0 (q + 3) (i0 + 1).toNat (μ0 (q + 3) i0.toNat + 0)) (q + 4) i0.toNat (μ0 q 6)) (q + 2) i0.toNat i0) (q + 2) i0.toNat o0) (q + 2) o0.toNat i0) → va_P (dC, dI) vwCl (fw (sE cI cZ cII cIII h0) h0 233 μ) H → va_S (fA h0 233 s.heap.size) s.heap H locs → lv_has ls 5 [(2, .int (iZ (i))), (1, .int (iZ (op))), (0, .ref (h0 + q))] → W p l e R s m args below meth c H locs cells slots Q (F0 m 35 ls [])) :
    ∀ (i : Int) (op : Int) (μ : va_M) (H : Heap) (locs : List Loc) (ls : Array Slot), (μ = μ0) → (i = i0 ∧ 0 ≤ i ∧ i < μ0 q 5) → (op = o0 ∧ -1 ≤ op ∧ op < i) → (0 ≤ μ0 q 6 ∧ μ0 q 6 ≤ i) → (0 ≤ μ0 (q + 3) i.toNat ∧ μ0 (q + 3) i.toNat ≤ i) → (0 ≤ μ0 (q + 1) i.toNat ∧ μ0 (q + 1) i.toNat ≤ 515) → (0 ≤ op → -1 ≤ μ0 (q + 2) op.toNat ∧ μ0 (q + 2) op.toNat ≤ i) → va_P (dC, dI) vwCl (fw (sE cI cZ cII cIII h0) h0 233 μ) H → va_S (fA h0 233 s.heap.size) s.heap H locs → lv_has ls 5 [(2, .int (iZ (i))), (1, .int (iZ (op))), (0, .ref (h0 + q))] → W p l e R s m args below meth c H locs cells slots Q (F0 m 35 ls []) := by
  intro i op μ H locs ls hm9_ hi ho hn ha hs hom hP hS hl
  subst hm9_
  obtain ⟨rfl, hi⟩ := hi
  obtain ⟨rfl, ho⟩ := ho
  have hqb := rowB_b hq
  refine lv_iload_n hx hb dX4_seal_35 rfl (lv_at hl 0 rfl) ?_
  refine lv_aload_n hx hb dX4_seal_36 rfl (lv_at hl 2 rfl) ?_
  refine fz_get (D := (dC, dI)) (ci := 4) (v := .int (iZ (μ q 5))) (C := RX4) (T := TX4) (N := 8) hx hb hts inG4 hown hK hP (k := q) (by show_term (have zq21 : True := trivial; omega)) (F := (sRF h0 q)) (sE_rowO hq) rfl 5 (by decide) (hts _ k92) (fun _ h9 => h9) rfl dX4_seal_37 ?_
  refine fz_icmp_ge (tgt := 175) (by constructor <;> show_term (have zq22 : True := trivial; omega)) (by constructor <;> show_term (have zq23 : True := trivial; omega)) hx hb dX4_seal_40 (by decide) (fun h9 => (by show_term (have zq24 : True := trivial; omega))) (fun c40_ => ?_)
  refine lv_aload_n hx hb dX4_seal_43 rfl (lv_at hl 2 rfl) ?_
  refine fz_get (D := (dC, dI)) (ci := 4) (v := .ref (h0 + (q + 1))) (C := RX4) (T := TX4) (N := 8) hx hb hts inG4 hown hK hP (k := q) (by show_term (have zq25 : True := trivial; omega)) (F := (sRF h0 q)) (sE_rowO hq) rfl 0 (by decide) (hts _ k77) (fun _ h9 => h9) rfl dX4_seal_44 ?_
  refine lv_iload_n hx hb dX4_seal_47 rfl (lv_at hl 0 rfl) ?_
  refine fz_ld (k := (q + 1)) (n := rm) hx hb hK hP 0 (by show_term (have zq26 : True := trivial; omega)) (sE_rowA (r := 1) hq (by decide)) rfl ⟨by show_term (have zq27 : True := trivial; omega), by show_term (have zq28 : True := trivial; omega)⟩ (by show_term (have zq29 : True := trivial; omega)) dX4_seal_48 ?_
  refine lv_istore_n (lv' := [(3, .int (iZ (μ (q + 1) (i).toNat))), (2, .int (iZ (i))), (1, .int (iZ (op))), (0, .ref (h0 + q))]) hx hb dX4_seal_49 rfl hl (by decide) rfl (fun ls hl => ?_)
  refine lv_aload_n hx hb dX4_seal_50 rfl (lv_at hl 3 rfl) ?_
  refine fz_get (D := (dC, dI)) (ci := 4) (v := .ref (h0 + (q + 3))) (C := RX4) (T := TX4) (N := 8) hx hb hts inG4 hown hK hP (k := q) (by show_term (have zq30 : True := trivial; omega)) (F := (sRF h0 q)) (sE_rowO hq) rfl 2 (by decide) (hts _ k87) (fun _ h9 => h9) rfl dX4_seal_51 ?_
  refine lv_iload_n hx hb dX4_seal_54 rfl (lv_at hl 1 rfl) ?_
  refine lv_iconst (v := iZ 1) hx hb dX4_seal_55 rfl ?_
  refine lv_iadd hx hb dX4_seal_56 ?_
  refine lv_topi (fun x9 ex9 => ?_)
  obtain rfl : x9 = iZ (i + 1) := ex9.trans (iZ_add _ _)
  refine lv_aload_n hx hb dX4_seal_57 rfl (lv_at hl 3 rfl) ?_
  refine fz_get (D := (dC, dI)) (ci := 4) (v := .ref (h0 + (q + 3))) (C := RX4) (T := TX4) (N := 8) hx hb hts inG4 hown hK hP (k := q) (by show_term (have zq31 : True := trivial; omega)) (F := (sRF h0 q)) (sE_rowO hq) rfl 2 (by decide) (hts _ k87) (fun _ h9 => h9) rfl dX4_seal_58 ?_
  refine lv_iload_n hx hb dX4_seal_61 rfl (lv_at hl 1 rfl) ?_
  refine fz_ld (k := (q + 3)) (n := (rm + 1)) hx hb hK hP 0 (by show_term (have zq32 : True := trivial; omega)) (sE_row3 hq) rfl ⟨by show_term (have zq33 : True := trivial; omega), by show_term (have zq34 : True := trivial; omega)⟩ (by show_term (have zq35 : True := trivial; omega)) dX4_seal_62 ?_
  refine lv_iload_n hx hb dX4_seal_63 rfl (lv_at hl 0 rfl) ?_
  refine va_calli (va_runSN (As := [.int (iZ (μ (q + 1) (i).toNat))]) (rest := [.int (iZ (μ (q + 3) (i).toNat)), .int (iZ (i + 1)), .ref (h0 + (q + 3))]) ⟨hx, hb, hml, hown, hts⟩ (s_isLeaf l dC dI cI cZ cII cIII h0 H.size μ (μ (q + 1) (i).toNat) (by first | assumption | show_term (have zq36 : True := trivial; omega) | exact ⟨by show_term (have zq37 : True := trivial; omega), by show_term (have zq38 : True := trivial; omega)⟩)) ⟨va_cnB (host := "PageSkeleton") 1 hts (gI_G k420) rfl rfl rfl (xM_nest hM 7 rfl) (hts _ k1) (by decide +kernel) ⟨by show 1 + 1 ≤ _; show_term (have zq39 : True := trivial; omega), by show 8 + (1 + 11) + (14) ≤ _; show_term (have zq40 : True := trivial; omega)⟩, hts _ k419, trivial⟩ ⟨fun a U g mk q => by obtain ⟨q0, q1, qP, qK, qM⟩ := q; exact ⟨q0, q1, qP, va_K.moved (u := U) (U := U.calling g mk a) (Vm.Alike.refl U.vm) qK, qM⟩, fun U hU hW => ⟨rfl, by rw [hU], by rw [hU]; exact hP, va_K.moved hW.alike hK, xM_warm hW hM⟩⟩ rfl rfl hl.1 rfl (lv_room (Nat.le_of_ble_eq_true rfl)) dX4_seal_64 ⟨hRc, hRs⟩) hS (fun q _ h => fA_le hS.1 q h) (fA_le hS.1) (fun r9 u9 t9 H1 locs ht9 hvm9 hw9 hB9 hz9 hk9 hS => ?_)
  obtain ⟨μ1, r2⟩ := u9
  obtain ⟨hP, -⟩ := hB9
  rw [ht9] at hP
  generalize H1 = H at hP hS ⊢
  obtain ⟨e9, hw9⟩ := hw9
  have e9 : r9 = iZ r2 := e9
  subst e9
  simp only at hP hw9
  have hμ1 := hw9; clear hw9
  rw [hμ1.1] at hP; have hμ1 := hμ1.2
  have hlf := if_01 hμ1
  have hlf9 := hμ1
  refine fz_if_eq (tgt := 74) (by constructor <;> show_term (have zq41 : True := trivial; omega)) hx hb dX4_seal_67 (by decide) (fun c67_ => ?_) (fun c67_ => ?_)
  · refine lv_iconst (v := iZ 0) hx hb dX4_seal_74 rfl ?_
    refine lv_iadd hx hb dX4_seal_75 ?_
    refine lv_topi (fun x9 ex9 => ?_)
    obtain rfl : x9 = iZ ((μ (q + 3) (i).toNat) + 0) := ex9.trans (iZ_add _ _)
    refine fz_st (k := (q + 3)) (n := (rm + 1)) (i := (i + 1)) (z := ((μ (q + 3) (i).toNat) + 0)) hx hb hK hP fA_in hS 0 (by show_term (have zq42 : True := trivial; omega)) (sE_row3 hq) rfl ⟨by show_term (have zq43 : True := trivial; omega), by show_term (have zq44 : True := trivial; omega)⟩ (by show_term (have zq45 : True := trivial; omega)) dX4_seal_76 (fun H locs hP hS => ?_)
    obtain ⟨μ3, eμ3⟩ : ∃ x : va_M, x = uz μ (q + 3) (i + 1).toNat ((μ (q + 3) (i).toNat) + 0) := ⟨_, rfl⟩
    rw [← eμ3] at hP
    refine lv_aload_n hx hb dX4_seal_77 rfl (lv_at hl 3 rfl) ?_
    refine fz_get (D := (dC, dI)) (ci := 4) (v := .ref (h0 + (q + 4))) (C := RX4) (T := TX4) (N := 8) hx hb hts inG4 hown hK hP (k := q) (by show_term (have zq46 : True := trivial; omega)) (F := (sRF h0 q)) (sE_rowO hq) rfl 3 (by decide) (hts _ k88) (fun _ h9 => h9) rfl dX4_seal_78 ?_
    refine lv_iload_n hx hb dX4_seal_81 rfl (lv_at hl 1 rfl) ?_
    refine lv_aload_n hx hb dX4_seal_82 rfl (lv_at hl 3 rfl) ?_
    refine fz_get (D := (dC, dI)) (ci := 4) (v := .int (iZ (μ3 q 6))) (C := RX4) (T := TX4) (N := 8) hx hb hts inG4 hown hK hP (k := q) (by show_term (have zq47 : True := trivial; omega)) (F := (sRF h0 q)) (sE_rowO hq) rfl 6 (by decide) (hts _ k100) (fun _ h9 => h9) rfl dX4_seal_83 ?_
    rw [show μ3 q 6 = μ q 6 from by rw [eμ3, uz_n (by show_term (have zq48 : True := trivial; omega))]]
    refine fz_st (k := (q + 4)) (n := rm) (i := i) (z := (μ q 6)) hx hb hK hP fA_in hS 0 (by show_term (have zq49 : True := trivial; omega)) (sE_rowA (r := 4) hq (by decide)) rfl ⟨by show_term (have zq50 : True := trivial; omega), by show_term (have zq51 : True := trivial; omega)⟩ (by show_term (have zq52 : True := trivial; omega)) dX4_seal_86 (fun H locs hP hS => ?_)
    obtain ⟨μ4, eμ4⟩ : ∃ x : va_M, x = uz μ3 (q + 4) (i).toNat (μ q 6) := ⟨_, rfl⟩
    rw [← eμ4] at hP
    refine lv_aload_n hx hb dX4_seal_87 rfl (lv_at hl 3 rfl) ?_
    refine fz_get (D := (dC, dI)) (ci := 4) (v := .ref (h0 + (q + 2))) (C := RX4) (T := TX4) (N := 8) hx hb hts inG4 hown hK hP (k := q) (by show_term (have zq53 : True := trivial; omega)) (F := (sRF h0 q)) (sE_rowO hq) rfl 1 (by decide) (hts _ k83) (fun _ h9 => h9) rfl dX4_seal_88 ?_
    refine lv_iload_n hx hb dX4_seal_91 rfl (lv_at hl 1 rfl) ?_
    refine lv_iload_n hx hb dX4_seal_92 rfl (lv_at hl 1 rfl) ?_
    refine fz_st (k := (q + 2)) (n := rm) (i := i) (z := i) hx hb hK hP fA_in hS 0 (by show_term (have zq54 : True := trivial; omega)) (sE_rowA (r := 2) hq (by decide)) rfl ⟨by show_term (have zq55 : True := trivial; omega), by show_term (have zq56 : True := trivial; omega)⟩ (by show_term (have zq57 : True := trivial; omega)) dX4_seal_93 (fun H locs hP hS => ?_)
    obtain ⟨μ5, eμ5⟩ : ∃ x : va_M, x = uz μ4 (q + 2) (i).toNat (i) := ⟨_, rfl⟩
    rw [← eμ5] at hP
    refine lv_iload_n hx hb dX4_seal_94 rfl (lv_at hl 0 rfl) ?_
    refine lv_sipush (v := iZ 515) hx hb dX4_seal_95 rfl ?_
    refine fz_icmp_ne (tgt := 133) (by constructor <;> show_term (have zq58 : True := trivial; omega)) (by decide) hx hb dX4_seal_98 (by decide) (fun c98_ => ?_) (fun c98_ => ?_)
    · refine lv_aload_n hx hb dX4_seal_133 rfl (lv_at hl 3 rfl) ?_
      refine fz_get (D := (dC, dI)) (ci := 4) (v := .ref (h0 + (q + 5))) (C := RX4) (T := TX4) (N := 8) hx hb hts inG4 hown hK hP (k := q) (by show_term (have zq59 : True := trivial; omega)) (F := (sRF h0 q)) (sE_rowO hq) rfl 4 (by decide) (hts _ k90) (fun _ h9 => h9) rfl dX4_seal_134 ?_
      refine lv_aload_n hx hb dX4_seal_137 rfl (lv_at hl 3 rfl) ?_
      refine fz_get (D := (dC, dI)) (ci := 4) (v := .int (iZ (μ5 q 6))) (C := RX4) (T := TX4) (N := 8) hx hb hts inG4 hown hK hP (k := q) (by show_term (have zq60 : True := trivial; omega)) (F := (sRF h0 q)) (sE_rowO hq) rfl 6 (by decide) (hts _ k100) (fun _ h9 => h9) rfl dX4_seal_138 ?_
      rw [show μ5 q 6 = μ q 6 from by rw [eμ5, uz_n (by show_term (have zq61 : True := trivial; omega)), eμ4, uz_n (by show_term (have zq62 : True := trivial; omega)), eμ3, uz_n (by show_term (have zq63 : True := trivial; omega))]]
      refine lv_iload_n hx hb dX4_seal_141 rfl (lv_at hl 1 rfl) ?_
      refine fz_st (k := (q + 5)) (n := rm) (i := (μ q 6)) (z := i) hx hb hK hP fA_in hS 0 (by show_term (have zq64 : True := trivial; omega)) (sE_rowA (r := 5) hq (by decide)) rfl ⟨by show_term (have zq65 : True := trivial; omega), by show_term (have zq66 : True := trivial; omega)⟩ (by show_term (have zq67 : True := trivial; omega)) dX4_seal_142 (fun H locs hP hS => ?_)
      obtain ⟨μ6, eμ6⟩ : ∃ x : va_M, x = uz μ5 (q + 5) (μ q 6).toNat (i) := ⟨_, rfl⟩
      rw [← eμ6] at hP
      refine lv_aload_n hx hb dX4_seal_143 rfl (lv_at hl 3 rfl) ?_
      refine lv_dup hx hb dX4_seal_144 rfl ?_
      refine fz_get (D := (dC, dI)) (ci := 4) (v := .int (iZ (μ6 q 6))) (C := RX4) (T := TX4) (N := 8) hx hb hts inG4 hown hK hP (k := q) (by show_term (have zq68 : True := trivial; omega)) (F := (sRF h0 q)) (sE_rowO hq) rfl 6 (by decide) (hts _ k100) (fun _ h9 => h9) rfl dX4_seal_145 ?_
      rw [show μ6 q 6 = μ q 6 from by rw [eμ6, uz_n (by show_term (have zq69 : True := trivial; omega)), eμ5, uz_n (by show_term (have zq70 : True := trivial; omega)), eμ4, uz_n (by show_term (have zq71 : True := trivial; omega)), eμ3, uz_n (by show_term (have zq72 : True := trivial; omega))]]
      refine lv_iconst (v := iZ 1) hx hb dX4_seal_148 rfl ?_
      refine lv_iadd hx hb dX4_seal_149 ?_
      refine lv_topi (fun x9 ex9 => ?_)
      obtain rfl : x9 = iZ ((μ q 6) + 1) := ex9.trans (iZ_add _ _)
      refine fz_put (D := (dC, dI)) (ci := 4) (ty := .int) (z := ((μ q 6) + 1)) (C := RX4) (T := TX4) (N := 8) hx hb hts inG4 tyX4 tyX4_ok nmX4 hown hK hP fA_in hS (k := q) (by show_term (have zq73 : True := trivial; omega)) (F := (sRF h0 q)) (sE_rowO hq) rfl 6 (by decide) (hts _ k100) (fun _ h9 => h9) rfl (by decide +kernel) rfl rfl (fun _ => Nat.le_of_ble_eq_true rfl) (fun _ _ => rfl) dX4_seal_150 (fun H locs hP hS => ?_)
      obtain ⟨μ7, eμ7⟩ : ∃ x : va_M, x = uz μ6 q 6 ((μ q 6) + 1) := ⟨_, rfl⟩
      rw [← eμ7] at hP
      refine lv_iload_n hx hb dX4_seal_153 rfl (lv_at hl 0 rfl) ?_
      refine va_calli (va_runSN (As := [.int (iZ (μ (q + 1) (i).toNat))]) (rest := []) ⟨hx, hb, hml, hown, hts⟩ (s_isOpen l dC dI cI cZ cII cIII h0 H.size μ7 (μ (q + 1) (i).toNat) (by first | assumption | show_term (have zq74 : True := trivial; omega) | exact ⟨by show_term (have zq75 : True := trivial; omega), by show_term (have zq76 : True := trivial; omega)⟩)) ⟨va_cnB (host := "PageSkeleton") 1 hts (gI_G k423) rfl rfl rfl (xM_nest hM 8 rfl) (hts _ k1) (by decide +kernel) ⟨by show 1 + 1 ≤ _; show_term (have zq77 : True := trivial; omega), by show 8 + (1 + 11) + (14) ≤ _; show_term (have zq78 : True := trivial; omega)⟩, hts _ k422, trivial⟩ ⟨fun a U g mk q => by obtain ⟨q0, q1, qP, qK, qM⟩ := q; exact ⟨q0, q1, qP, va_K.moved (u := U) (U := U.calling g mk a) (Vm.Alike.refl U.vm) qK, qM⟩, fun U hU hW => ⟨rfl, by rw [hU], by rw [hU]; exact hP, va_K.moved hW.alike hK, xM_warm hW hM⟩⟩ rfl rfl hl.1 rfl (lv_room (Nat.le_of_ble_eq_true rfl)) dX4_seal_154 ⟨hRc, hRs⟩) hS (fun q _ h => fA_le hS.1 q h) (fA_le hS.1) (fun r9 u9 t9 H1 locs ht9 hvm9 hw9 hB9 hz9 hk9 hS => ?_)
      obtain ⟨μ8, r10⟩ := u9
      obtain ⟨hP, -⟩ := hB9
      rw [ht9] at hP
      generalize H1 = H at hP hS ⊢
      obtain ⟨e9, hw9⟩ := hw9
      have e9 : r9 = iZ r10 := e9
      subst e9
      simp only at hP hw9
      have hμ8 := hw9; clear hw9
      rw [hμ8.1] at hP; have hμ8 := hμ8.2
      have hop9 := if_01 hμ8
      have hop8 := hμ8
      refine fz_if_eq (tgt := 169) (by constructor <;> show_term (have zq79 : True := trivial; omega)) hx hb dX4_seal_157 (by decide) (fun c157_ => ?_) (fun c157_ => ?_)
      · refine lv_iinc (v := iZ (i + 1)) (lv' := [(2, .int (iZ (i + 1))), (3, .int (iZ (μ (q + 1) (i).toNat))), (1, .int (iZ (op))), (0, .ref (h0 + q))]) hx hb dX4_seal_169 hl (k := 1) rfl (iZ_add _ _) (by decide) rfl (fun ls hl => ?_)
        refine lv_goto (tgt := 35) hx hb dX4_seal_172 (by decide) ?_
        exact hexit35 (i + 1) (op) μ7 H locs ls (by show_term (have zq80 : True := trivial; omega)) (by intro h8; exfalso; rw [if_pos (by show_term (have zq81 : True := trivial; omega))] at hlf9; show_term (have zq82 : True := trivial; omega)) (by intro h8; exfalso; rw [if_pos h8] at hop8; show_term (have zq83 : True := trivial; omega)) (by intro h8 h7; exfalso; show_term (have zq84 : True := trivial; omega)) hP hS (lv_sub hl [0, 2, 3] rfl)
      · refine lv_aload_n hx hb dX4_seal_160 rfl (lv_at hl 3 rfl) ?_
        refine fz_get (D := (dC, dI)) (ci := 4) (v := .ref (h0 + (q + 2))) (C := RX4) (T := TX4) (N := 8) hx hb hts inG4 hown hK hP (k := q) (by show_term (have zq85 : True := trivial; omega)) (F := (sRF h0 q)) (sE_rowO hq) rfl 1 (by decide) (hts _ k83) (fun _ h9 => h9) rfl dX4_seal_161 ?_
        refine lv_iload_n hx hb dX4_seal_164 rfl (lv_at hl 1 rfl) ?_
        refine lv_iload_n hx hb dX4_seal_165 rfl (lv_at hl 2 rfl) ?_
        refine fz_st (k := (q + 2)) (n := rm) (i := i) (z := op) hx hb hK hP fA_in hS 0 (by show_term (have zq86 : True := trivial; omega)) (sE_rowA (r := 2) hq (by decide)) rfl ⟨by show_term (have zq87 : True := trivial; omega), by show_term (have zq88 : True := trivial; omega)⟩ (by show_term (have zq89 : True := trivial; omega)) dX4_seal_166 (fun H locs hP hS => ?_)
        obtain ⟨μ11, eμ11⟩ : ∃ x : va_M, x = uz μ7 (q + 2) (i).toNat (op) := ⟨_, rfl⟩
        rw [← eμ11] at hP
        refine lv_iload_n hx hb dX4_seal_167 rfl (lv_at hl 1 rfl) ?_
        refine lv_istore_n (lv' := [(1, .int (iZ (i))), (3, .int (iZ (μ (q + 1) (i).toNat))), (2, .int (iZ (i))), (0, .ref (h0 + q))]) hx hb dX4_seal_168 rfl hl (by decide) rfl (fun ls hl => ?_)
        refine lv_iinc (v := iZ (i + 1)) (lv' := [(2, .int (iZ (i + 1))), (1, .int (iZ (i))), (3, .int (iZ (μ (q + 1) (i).toNat))), (0, .ref (h0 + q))]) hx hb dX4_seal_169 hl (k := 2) rfl (iZ_add _ _) (by decide) rfl (fun ls hl => ?_)
        refine lv_goto (tgt := 35) hx hb dX4_seal_172 (by decide) ?_
        exact hexit35 (i + 1) (i) μ11 H locs ls (by show_term (have zq90 : True := trivial; omega)) (by intro h8; exfalso; rw [if_neg (by show_term (have zq91 : True := trivial; omega))] at hop8; show_term (have zq92 : True := trivial; omega)) (by intro h8; exact ⟨rfl, by rw [eμ11, eμ7, eμ6, eμ5, eμ4, eμ3]⟩) (by intro h8 h7; exfalso; show_term (have zq93 : True := trivial; omega)) hP hS (lv_sub hl [0, 1, 3] rfl)
    · refine lv_iload_n hx hb dX4_seal_101 rfl (lv_at hl 2 rfl) ?_
      refine fz_if_lt (tgt := 169) (by constructor <;> show_term (have zq94 : True := trivial; omega)) hx hb dX4_seal_102 (by decide) (fun c102_ => ?_) (fun c102_ => ?_)
      · refine lv_iinc (v := iZ (i + 1)) (lv' := [(2, .int (iZ (i + 1))), (3, .int (iZ (μ (q + 1) (i).toNat))), (1, .int (iZ (op))), (0, .ref (h0 + q))]) hx hb dX4_seal_169 hl (k := 1) rfl (iZ_add _ _) (by decide) rfl (fun ls hl => ?_)
        refine lv_goto (tgt := 35) hx hb dX4_seal_172 (by decide) ?_
        exact hexit35 (i + 1) (op) μ5 H locs ls (by show_term (have zq95 : True := trivial; omega)) (by intro h8; exfalso; show_term (have zq96 : True := trivial; omega)) (by intro h8; exfalso; show_term (have zq97 : True := trivial; omega)) (by intro h8 h7; exfalso; show_term (have zq98 : True := trivial; omega)) hP hS (lv_sub hl [0, 2, 3] rfl)
      · refine lv_aload_n hx hb dX4_seal_105 rfl (lv_at hl 3 rfl) ?_
        refine fz_get (D := (dC, dI)) (ci := 4) (v := .ref (h0 + (q + 2))) (C := RX4) (T := TX4) (N := 8) hx hb hts inG4 hown hK hP (k := q) (by show_term (have zq99 : True := trivial; omega)) (F := (sRF h0 q)) (sE_rowO hq) rfl 1 (by decide) (hts _ k83) (fun _ h9 => h9) rfl dX4_seal_106 ?_
        refine lv_iload_n hx hb dX4_seal_109 rfl (lv_at hl 2 rfl) ?_
        refine fz_ld (k := (q + 2)) (n := rm) hx hb hK hP 0 (by show_term (have zq100 : True := trivial; omega)) (sE_rowA (r := 2) hq (by decide)) rfl ⟨by show_term (have zq101 : True := trivial; omega), by show_term (have zq102 : True := trivial; omega)⟩ (by show_term (have zq103 : True := trivial; omega)) dX4_seal_110 ?_
        rw [show μ5 (q + 2) (op).toNat = μ (q + 2) op.toNat from (by
                rw [eμ5, eμ4, eμ3]
                repeat rw [uz_n (by show_term (have zq104 : True := trivial; omega))])]
        refine lv_istore (lv' := [(4, .int (iZ (μ (q + 2) op.toNat))), (3, .int (iZ (μ (q + 1) (i).toNat))), (2, .int (iZ (i))), (1, .int (iZ (op))), (0, .ref (h0 + q))]) hx hb dX4_seal_111 hl (by decide) rfl (fun ls hl => ?_)
        refine lv_aload_n hx hb dX4_seal_113 rfl (lv_at hl 4 rfl) ?_
        refine fz_get (D := (dC, dI)) (ci := 4) (v := .ref (h0 + (q + 2))) (C := RX4) (T := TX4) (N := 8) hx hb hts inG4 hown hK hP (k := q) (by show_term (have zq105 : True := trivial; omega)) (F := (sRF h0 q)) (sE_rowO hq) rfl 1 (by decide) (hts _ k83) (fun _ h9 => h9) rfl dX4_seal_114 ?_
        refine lv_iload_n hx hb dX4_seal_117 rfl (lv_at hl 2 rfl) ?_
        refine lv_iload_n hx hb dX4_seal_118 rfl (lv_at hl 3 rfl) ?_
        refine fz_st (k := (q + 2)) (n := rm) (i := i) (z := op) hx hb hK hP fA_in hS 0 (by show_term (have zq106 : True := trivial; omega)) (sE_rowA (r := 2) hq (by decide)) rfl ⟨by show_term (have zq107 : True := trivial; omega), by show_term (have zq108 : True := trivial; omega)⟩ (by show_term (have zq109 : True := trivial; omega)) dX4_seal_119 (fun H locs hP hS => ?_)
        obtain ⟨μ12, eμ12⟩ : ∃ x : va_M, x = uz μ5 (q + 2) (i).toNat (op) := ⟨_, rfl⟩
        rw [← eμ12] at hP
        refine lv_aload_n hx hb dX4_seal_120 rfl (lv_at hl 4 rfl) ?_
        refine fz_get (D := (dC, dI)) (ci := 4) (v := .ref (h0 + (q + 2))) (C := RX4) (T := TX4) (N := 8) hx hb hts inG4 hown hK hP (k := q) (by show_term (have zq110 : True := trivial; omega)) (F := (sRF h0 q)) (sE_rowO hq) rfl 1 (by decide) (hts _ k83) (fun _ h9 => h9) rfl dX4_seal_121 ?_
        refine lv_iload_n hx hb dX4_seal_124 rfl (lv_at hl 3 rfl) ?_
        refine lv_iload_n hx hb dX4_seal_125 rfl (lv_at hl 2 rfl) ?_
        refine fz_st (k := (q + 2)) (n := rm) (i := op) (z := i) hx hb hK hP fA_in hS 0 (by show_term (have zq111 : True := trivial; omega)) (sE_rowA (r := 2) hq (by decide)) rfl ⟨by show_term (have zq112 : True := trivial; omega), by show_term (have zq113 : True := trivial; omega)⟩ (by show_term (have zq114 : True := trivial; omega)) dX4_seal_126 (fun H locs hP hS => ?_)
        obtain ⟨μ13, eμ13⟩ : ∃ x : va_M, x = uz μ12 (q + 2) (op).toNat (i) := ⟨_, rfl⟩
        rw [← eμ13] at hP
        refine lv_iload hx hb dX4_seal_127 (lv_at hl 0 rfl) ?_
        refine lv_istore_n (lv' := [(1, .int (iZ (μ (q + 2) op.toNat))), (4, .int (iZ (μ (q + 2) op.toNat))), (3, .int (iZ (μ (q + 1) (i).toNat))), (2, .int (iZ (i))), (0, .ref (h0 + q))]) hx hb dX4_seal_129 rfl hl (by decide) rfl (fun ls hl => ?_)
        refine lv_goto (tgt := 169) hx hb dX4_seal_130 (by decide) ?_
        refine lv_iinc (v := iZ (i + 1)) (lv' := [(2, .int (iZ (i + 1))), (1, .int (iZ (μ (q + 2) op.toNat))), (4, .int (iZ (μ (q + 2) op.toNat))), (3, .int (iZ (μ (q + 1) (i).toNat))), (0, .ref (h0 + q))]) hx hb dX4_seal_169 hl (k := 3) rfl (iZ_add _ _) (by decide) rfl (fun ls hl => ?_)
        refine lv_goto (tgt := 35) hx hb dX4_seal_172 (by decide) ?_
        exact hexit35 (i + 1) (μ (q + 2) op.toNat) μ13 H locs ls (by show_term (have zq115 : True := trivial; omega)) (by intro h8; exfalso; show_term (have zq116 : True := trivial; omega)) (by intro h8; exfalso; show_term (have zq117 : True := trivial; omega)) (by intro h8 h7; exact ⟨rfl, by rw [eμ13, eμ12, eμ5, eμ4, eμ3]⟩) hP hS (lv_sub hl [0, 1, 4] rfl)
  · refine lv_iconst (v := iZ 1) hx hb dX4_seal_70 rfl ?_
    refine lv_goto (tgt := 75) hx hb dX4_seal_71 (by decide) ?_
    refine lv_iadd hx hb dX4_seal_75 ?_
    refine lv_topi (fun x9 ex9 => ?_)
    obtain rfl : x9 = iZ ((μ (q + 3) (i).toNat) + 1) := ex9.trans (iZ_add _ _)
    refine fz_st (k := (q + 3)) (n := (rm + 1)) (i := (i + 1)) (z := ((μ (q + 3) (i).toNat) + 1)) hx hb hK hP fA_in hS 0 (by show_term (have zq118 : True := trivial; omega)) (sE_row3 hq) rfl ⟨by show_term (have zq119 : True := trivial; omega), by show_term (have zq120 : True := trivial; omega)⟩ (by show_term (have zq121 : True := trivial; omega)) dX4_seal_76 (fun H locs hP hS => ?_)
    obtain ⟨μ14, eμ14⟩ : ∃ x : va_M, x = uz μ (q + 3) (i + 1).toNat ((μ (q + 3) (i).toNat) + 1) := ⟨_, rfl⟩
    rw [← eμ14] at hP
    refine lv_aload_n hx hb dX4_seal_77 rfl (lv_at hl 3 rfl) ?_
    refine fz_get (D := (dC, dI)) (ci := 4) (v := .ref (h0 + (q + 4))) (C := RX4) (T := TX4) (N := 8) hx hb hts inG4 hown hK hP (k := q) (by show_term (have zq122 : True := trivial; omega)) (F := (sRF h0 q)) (sE_rowO hq) rfl 3 (by decide) (hts _ k88) (fun _ h9 => h9) rfl dX4_seal_78 ?_
    refine lv_iload_n hx hb dX4_seal_81 rfl (lv_at hl 1 rfl) ?_
    refine lv_aload_n hx hb dX4_seal_82 rfl (lv_at hl 3 rfl) ?_
    refine fz_get (D := (dC, dI)) (ci := 4) (v := .int (iZ (μ14 q 6))) (C := RX4) (T := TX4) (N := 8) hx hb hts inG4 hown hK hP (k := q) (by show_term (have zq123 : True := trivial; omega)) (F := (sRF h0 q)) (sE_rowO hq) rfl 6 (by decide) (hts _ k100) (fun _ h9 => h9) rfl dX4_seal_83 ?_
    rw [show μ14 q 6 = μ q 6 from by rw [eμ14, uz_n (by show_term (have zq124 : True := trivial; omega))]]
    refine fz_st (k := (q + 4)) (n := rm) (i := i) (z := (μ q 6)) hx hb hK hP fA_in hS 0 (by show_term (have zq125 : True := trivial; omega)) (sE_rowA (r := 4) hq (by decide)) rfl ⟨by show_term (have zq126 : True := trivial; omega), by show_term (have zq127 : True := trivial; omega)⟩ (by show_term (have zq128 : True := trivial; omega)) dX4_seal_86 (fun H locs hP hS => ?_)
    obtain ⟨μ15, eμ15⟩ : ∃ x : va_M, x = uz μ14 (q + 4) (i).toNat (μ q 6) := ⟨_, rfl⟩
    rw [← eμ15] at hP
    refine lv_aload_n hx hb dX4_seal_87 rfl (lv_at hl 3 rfl) ?_
    refine fz_get (D := (dC, dI)) (ci := 4) (v := .ref (h0 + (q + 2))) (C := RX4) (T := TX4) (N := 8) hx hb hts inG4 hown hK hP (k := q) (by show_term (have zq129 : True := trivial; omega)) (F := (sRF h0 q)) (sE_rowO hq) rfl 1 (by decide) (hts _ k83) (fun _ h9 => h9) rfl dX4_seal_88 ?_
    refine lv_iload_n hx hb dX4_seal_91 rfl (lv_at hl 1 rfl) ?_
    refine lv_iload_n hx hb dX4_seal_92 rfl (lv_at hl 1 rfl) ?_
    refine fz_st (k := (q + 2)) (n := rm) (i := i) (z := i) hx hb hK hP fA_in hS 0 (by show_term (have zq130 : True := trivial; omega)) (sE_rowA (r := 2) hq (by decide)) rfl ⟨by show_term (have zq131 : True := trivial; omega), by show_term (have zq132 : True := trivial; omega)⟩ (by show_term (have zq133 : True := trivial; omega)) dX4_seal_93 (fun H locs hP hS => ?_)
    obtain ⟨μ16, eμ16⟩ : ∃ x : va_M, x = uz μ15 (q + 2) (i).toNat (i) := ⟨_, rfl⟩
    rw [← eμ16] at hP
    refine lv_iload_n hx hb dX4_seal_94 rfl (lv_at hl 0 rfl) ?_
    refine lv_sipush (v := iZ 515) hx hb dX4_seal_95 rfl ?_
    refine fz_icmp_ne (tgt := 133) (by constructor <;> show_term (have zq134 : True := trivial; omega)) (by decide) hx hb dX4_seal_98 (by decide) (fun c98_ => ?_) (fun c98_ => ?_)
    · refine lv_aload_n hx hb dX4_seal_133 rfl (lv_at hl 3 rfl) ?_
      refine fz_get (D := (dC, dI)) (ci := 4) (v := .ref (h0 + (q + 5))) (C := RX4) (T := TX4) (N := 8) hx hb hts inG4 hown hK hP (k := q) (by show_term (have zq135 : True := trivial; omega)) (F := (sRF h0 q)) (sE_rowO hq) rfl 4 (by decide) (hts _ k90) (fun _ h9 => h9) rfl dX4_seal_134 ?_
      refine lv_aload_n hx hb dX4_seal_137 rfl (lv_at hl 3 rfl) ?_
      refine fz_get (D := (dC, dI)) (ci := 4) (v := .int (iZ (μ16 q 6))) (C := RX4) (T := TX4) (N := 8) hx hb hts inG4 hown hK hP (k := q) (by show_term (have zq136 : True := trivial; omega)) (F := (sRF h0 q)) (sE_rowO hq) rfl 6 (by decide) (hts _ k100) (fun _ h9 => h9) rfl dX4_seal_138 ?_
      rw [show μ16 q 6 = μ q 6 from by rw [eμ16, uz_n (by show_term (have zq137 : True := trivial; omega)), eμ15, uz_n (by show_term (have zq138 : True := trivial; omega)), eμ14, uz_n (by show_term (have zq139 : True := trivial; omega))]]
      refine lv_iload_n hx hb dX4_seal_141 rfl (lv_at hl 1 rfl) ?_
      refine fz_st (k := (q + 5)) (n := rm) (i := (μ q 6)) (z := i) hx hb hK hP fA_in hS 0 (by show_term (have zq140 : True := trivial; omega)) (sE_rowA (r := 5) hq (by decide)) rfl ⟨by show_term (have zq141 : True := trivial; omega), by show_term (have zq142 : True := trivial; omega)⟩ (by show_term (have zq143 : True := trivial; omega)) dX4_seal_142 (fun H locs hP hS => ?_)
      obtain ⟨μ17, eμ17⟩ : ∃ x : va_M, x = uz μ16 (q + 5) (μ q 6).toNat (i) := ⟨_, rfl⟩
      rw [← eμ17] at hP
      refine lv_aload_n hx hb dX4_seal_143 rfl (lv_at hl 3 rfl) ?_
      refine lv_dup hx hb dX4_seal_144 rfl ?_
      refine fz_get (D := (dC, dI)) (ci := 4) (v := .int (iZ (μ17 q 6))) (C := RX4) (T := TX4) (N := 8) hx hb hts inG4 hown hK hP (k := q) (by show_term (have zq144 : True := trivial; omega)) (F := (sRF h0 q)) (sE_rowO hq) rfl 6 (by decide) (hts _ k100) (fun _ h9 => h9) rfl dX4_seal_145 ?_
      rw [show μ17 q 6 = μ q 6 from by rw [eμ17, uz_n (by show_term (have zq145 : True := trivial; omega)), eμ16, uz_n (by show_term (have zq146 : True := trivial; omega)), eμ15, uz_n (by show_term (have zq147 : True := trivial; omega)), eμ14, uz_n (by show_term (have zq148 : True := trivial; omega))]]
      refine lv_iconst (v := iZ 1) hx hb dX4_seal_148 rfl ?_
      refine lv_iadd hx hb dX4_seal_149 ?_
      refine lv_topi (fun x9 ex9 => ?_)
      obtain rfl : x9 = iZ ((μ q 6) + 1) := ex9.trans (iZ_add _ _)
      refine fz_put (D := (dC, dI)) (ci := 4) (ty := .int) (z := ((μ q 6) + 1)) (C := RX4) (T := TX4) (N := 8) hx hb hts inG4 tyX4 tyX4_ok nmX4 hown hK hP fA_in hS (k := q) (by show_term (have zq149 : True := trivial; omega)) (F := (sRF h0 q)) (sE_rowO hq) rfl 6 (by decide) (hts _ k100) (fun _ h9 => h9) rfl (by decide +kernel) rfl rfl (fun _ => Nat.le_of_ble_eq_true rfl) (fun _ _ => rfl) dX4_seal_150 (fun H locs hP hS => ?_)
      obtain ⟨μ18, eμ18⟩ : ∃ x : va_M, x = uz μ17 q 6 ((μ q 6) + 1) := ⟨_, rfl⟩
      rw [← eμ18] at hP
      refine lv_iload_n hx hb dX4_seal_153 rfl (lv_at hl 0 rfl) ?_
      refine va_calli (va_runSN (As := [.int (iZ (μ (q + 1) (i).toNat))]) (rest := []) ⟨hx, hb, hml, hown, hts⟩ (s_isOpen l dC dI cI cZ cII cIII h0 H.size μ18 (μ (q + 1) (i).toNat) (by first | assumption | show_term (have zq150 : True := trivial; omega) | exact ⟨by show_term (have zq151 : True := trivial; omega), by show_term (have zq152 : True := trivial; omega)⟩)) ⟨va_cnB (host := "PageSkeleton") 1 hts (gI_G k423) rfl rfl rfl (xM_nest hM 8 rfl) (hts _ k1) (by decide +kernel) ⟨by show 1 + 1 ≤ _; show_term (have zq153 : True := trivial; omega), by show 8 + (1 + 11) + (14) ≤ _; show_term (have zq154 : True := trivial; omega)⟩, hts _ k422, trivial⟩ ⟨fun a U g mk q => by obtain ⟨q0, q1, qP, qK, qM⟩ := q; exact ⟨q0, q1, qP, va_K.moved (u := U) (U := U.calling g mk a) (Vm.Alike.refl U.vm) qK, qM⟩, fun U hU hW => ⟨rfl, by rw [hU], by rw [hU]; exact hP, va_K.moved hW.alike hK, xM_warm hW hM⟩⟩ rfl rfl hl.1 rfl (lv_room (Nat.le_of_ble_eq_true rfl)) dX4_seal_154 ⟨hRc, hRs⟩) hS (fun q _ h => fA_le hS.1 q h) (fA_le hS.1) (fun r9 u9 t9 H1 locs ht9 hvm9 hw9 hB9 hz9 hk9 hS => ?_)
      obtain ⟨μ19, r20⟩ := u9
      obtain ⟨hP, -⟩ := hB9
      rw [ht9] at hP
      generalize H1 = H at hP hS ⊢
      obtain ⟨e9, hw9⟩ := hw9
      have e9 : r9 = iZ r20 := e9
      subst e9
      simp only at hP hw9
      have hμ19 := hw9; clear hw9
      rw [hμ19.1] at hP; have hμ19 := hμ19.2
      have hop9 := if_01 hμ19
      have hop8 := hμ19
      refine fz_if_eq (tgt := 169) (by constructor <;> show_term (have zq155 : True := trivial; omega)) hx hb dX4_seal_157 (by decide) (fun c157_ => ?_) (fun c157_ => ?_)
      · refine lv_iinc (v := iZ (i + 1)) (lv' := [(2, .int (iZ (i + 1))), (3, .int (iZ (μ (q + 1) (i).toNat))), (1, .int (iZ (op))), (0, .ref (h0 + q))]) hx hb dX4_seal_169 hl (k := 1) rfl (iZ_add _ _) (by decide) rfl (fun ls hl => ?_)
        refine lv_goto (tgt := 35) hx hb dX4_seal_172 (by decide) ?_
        exact hexit35 (i + 1) (op) μ18 H locs ls (by show_term (have zq156 : True := trivial; omega)) (by intro h8; exact ⟨rfl, by rw [eμ18, eμ17, eμ16, eμ15, eμ14]⟩) (by intro h8; exfalso; rw [if_pos h8] at hop8; show_term (have zq157 : True := trivial; omega)) (by intro h8 h7; exfalso; show_term (have zq158 : True := trivial; omega)) hP hS (lv_sub hl [0, 2, 3] rfl)
      · refine lv_aload_n hx hb dX4_seal_160 rfl (lv_at hl 3 rfl) ?_
        refine fz_get (D := (dC, dI)) (ci := 4) (v := .ref (h0 + (q + 2))) (C := RX4) (T := TX4) (N := 8) hx hb hts inG4 hown hK hP (k := q) (by show_term (have zq159 : True := trivial; omega)) (F := (sRF h0 q)) (sE_rowO hq) rfl 1 (by decide) (hts _ k83) (fun _ h9 => h9) rfl dX4_seal_161 ?_
        refine lv_iload_n hx hb dX4_seal_164 rfl (lv_at hl 1 rfl) ?_
        refine lv_iload_n hx hb dX4_seal_165 rfl (lv_at hl 2 rfl) ?_
        refine fz_st (k := (q + 2)) (n := rm) (i := i) (z := op) hx hb hK hP fA_in hS 0 (by show_term (have zq160 : True := trivial; omega)) (sE_rowA (r := 2) hq (by decide)) rfl ⟨by show_term (have zq161 : True := trivial; omega), by show_term (have zq162 : True := trivial; omega)⟩ (by show_term (have zq163 : True := trivial; omega)) dX4_seal_166 (fun H locs hP hS => ?_)
        obtain ⟨μ21, eμ21⟩ : ∃ x : va_M, x = uz μ18 (q + 2) (i).toNat (op) := ⟨_, rfl⟩
        rw [← eμ21] at hP
        refine lv_iload_n hx hb dX4_seal_167 rfl (lv_at hl 1 rfl) ?_
        refine lv_istore_n (lv' := [(1, .int (iZ (i))), (3, .int (iZ (μ (q + 1) (i).toNat))), (2, .int (iZ (i))), (0, .ref (h0 + q))]) hx hb dX4_seal_168 rfl hl (by decide) rfl (fun ls hl => ?_)
        refine lv_iinc (v := iZ (i + 1)) (lv' := [(2, .int (iZ (i + 1))), (1, .int (iZ (i))), (3, .int (iZ (μ (q + 1) (i).toNat))), (0, .ref (h0 + q))]) hx hb dX4_seal_169 hl (k := 2) rfl (iZ_add _ _) (by decide) rfl (fun ls hl => ?_)
        refine lv_goto (tgt := 35) hx hb dX4_seal_172 (by decide) ?_
        exact hexit35 (i + 1) (i) μ21 H locs ls (by show_term (have zq164 : True := trivial; omega)) (by intro h8; exfalso; rw [if_neg (by show_term (have zq165 : True := trivial; omega))] at hop8; show_term (have zq166 : True := trivial; omega)) (by intro h8; exfalso; rw [if_neg (by show_term (have zq167 : True := trivial; omega))] at hlf9; show_term (have zq168 : True := trivial; omega)) (by intro h8 h7; exfalso; show_term (have zq169 : True := trivial; omega)) hP hS (lv_sub hl [0, 1, 3] rfl)
    · refine lv_iload_n hx hb dX4_seal_101 rfl (lv_at hl 2 rfl) ?_
      refine fz_if_lt (tgt := 169) (by constructor <;> show_term (have zq170 : True := trivial; omega)) hx hb dX4_seal_102 (by decide) (fun c102_ => ?_) (fun c102_ => ?_)
      · refine lv_iinc (v := iZ (i + 1)) (lv' := [(2, .int (iZ (i + 1))), (3, .int (iZ (μ (q + 1) (i).toNat))), (1, .int (iZ (op))), (0, .ref (h0 + q))]) hx hb dX4_seal_169 hl (k := 1) rfl (iZ_add _ _) (by decide) rfl (fun ls hl => ?_)
        refine lv_goto (tgt := 35) hx hb dX4_seal_172 (by decide) ?_
        exact hexit35 (i + 1) (op) μ16 H locs ls (by show_term (have zq171 : True := trivial; omega)) (by intro h8; exfalso; show_term (have zq172 : True := trivial; omega)) (by intro h8; exfalso; show_term (have zq173 : True := trivial; omega)) (by intro h8 h7; exfalso; show_term (have zq174 : True := trivial; omega)) hP hS (lv_sub hl [0, 2, 3] rfl)
      · refine lv_aload_n hx hb dX4_seal_105 rfl (lv_at hl 3 rfl) ?_
        refine fz_get (D := (dC, dI)) (ci := 4) (v := .ref (h0 + (q + 2))) (C := RX4) (T := TX4) (N := 8) hx hb hts inG4 hown hK hP (k := q) (by show_term (have zq175 : True := trivial; omega)) (F := (sRF h0 q)) (sE_rowO hq) rfl 1 (by decide) (hts _ k83) (fun _ h9 => h9) rfl dX4_seal_106 ?_
        refine lv_iload_n hx hb dX4_seal_109 rfl (lv_at hl 2 rfl) ?_
        refine fz_ld (k := (q + 2)) (n := rm) hx hb hK hP 0 (by show_term (have zq176 : True := trivial; omega)) (sE_rowA (r := 2) hq (by decide)) rfl ⟨by show_term (have zq177 : True := trivial; omega), by show_term (have zq178 : True := trivial; omega)⟩ (by show_term (have zq179 : True := trivial; omega)) dX4_seal_110 ?_
        rw [show μ16 (q + 2) (op).toNat = μ (q + 2) op.toNat from (by
                rw [eμ16, eμ15, eμ14]
                repeat rw [uz_n (by show_term (have zq180 : True := trivial; omega))])]
        refine lv_istore (lv' := [(4, .int (iZ (μ (q + 2) op.toNat))), (3, .int (iZ (μ (q + 1) (i).toNat))), (2, .int (iZ (i))), (1, .int (iZ (op))), (0, .ref (h0 + q))]) hx hb dX4_seal_111 hl (by decide) rfl (fun ls hl => ?_)
        refine lv_aload_n hx hb dX4_seal_113 rfl (lv_at hl 4 rfl) ?_
        refine fz_get (D := (dC, dI)) (ci := 4) (v := .ref (h0 + (q + 2))) (C := RX4) (T := TX4) (N := 8) hx hb hts inG4 hown hK hP (k := q) (by show_term (have zq181 : True := trivial; omega)) (F := (sRF h0 q)) (sE_rowO hq) rfl 1 (by decide) (hts _ k83) (fun _ h9 => h9) rfl dX4_seal_114 ?_
        refine lv_iload_n hx hb dX4_seal_117 rfl (lv_at hl 2 rfl) ?_
        refine lv_iload_n hx hb dX4_seal_118 rfl (lv_at hl 3 rfl) ?_
        refine fz_st (k := (q + 2)) (n := rm) (i := i) (z := op) hx hb hK hP fA_in hS 0 (by show_term (have zq182 : True := trivial; omega)) (sE_rowA (r := 2) hq (by decide)) rfl ⟨by show_term (have zq183 : True := trivial; omega), by show_term (have zq184 : True := trivial; omega)⟩ (by show_term (have zq185 : True := trivial; omega)) dX4_seal_119 (fun H locs hP hS => ?_)
        obtain ⟨μ22, eμ22⟩ : ∃ x : va_M, x = uz μ16 (q + 2) (i).toNat (op) := ⟨_, rfl⟩
        rw [← eμ22] at hP
        refine lv_aload_n hx hb dX4_seal_120 rfl (lv_at hl 4 rfl) ?_
        refine fz_get (D := (dC, dI)) (ci := 4) (v := .ref (h0 + (q + 2))) (C := RX4) (T := TX4) (N := 8) hx hb hts inG4 hown hK hP (k := q) (by show_term (have zq186 : True := trivial; omega)) (F := (sRF h0 q)) (sE_rowO hq) rfl 1 (by decide) (hts _ k83) (fun _ h9 => h9) rfl dX4_seal_121 ?_
        refine lv_iload_n hx hb dX4_seal_124 rfl (lv_at hl 3 rfl) ?_
        refine lv_iload_n hx hb dX4_seal_125 rfl (lv_at hl 2 rfl) ?_
        refine fz_st (k := (q + 2)) (n := rm) (i := op) (z := i) hx hb hK hP fA_in hS 0 (by show_term (have zq187 : True := trivial; omega)) (sE_rowA (r := 2) hq (by decide)) rfl ⟨by show_term (have zq188 : True := trivial; omega), by show_term (have zq189 : True := trivial; omega)⟩ (by show_term (have zq190 : True := trivial; omega)) dX4_seal_126 (fun H locs hP hS => ?_)
        obtain ⟨μ23, eμ23⟩ : ∃ x : va_M, x = uz μ22 (q + 2) (op).toNat (i) := ⟨_, rfl⟩
        rw [← eμ23] at hP
        refine lv_iload hx hb dX4_seal_127 (lv_at hl 0 rfl) ?_
        refine lv_istore_n (lv' := [(1, .int (iZ (μ (q + 2) op.toNat))), (4, .int (iZ (μ (q + 2) op.toNat))), (3, .int (iZ (μ (q + 1) (i).toNat))), (2, .int (iZ (i))), (0, .ref (h0 + q))]) hx hb dX4_seal_129 rfl hl (by decide) rfl (fun ls hl => ?_)
        refine lv_goto (tgt := 169) hx hb dX4_seal_130 (by decide) ?_
        refine lv_iinc (v := iZ (i + 1)) (lv' := [(2, .int (iZ (i + 1))), (1, .int (iZ (μ (q + 2) op.toNat))), (4, .int (iZ (μ (q + 2) op.toNat))), (3, .int (iZ (μ (q + 1) (i).toNat))), (0, .ref (h0 + q))]) hx hb dX4_seal_169 hl (k := 3) rfl (iZ_add _ _) (by decide) rfl (fun ls hl => ?_)
        refine lv_goto (tgt := 35) hx hb dX4_seal_172 (by decide) ?_
        exact hexit35 (i + 1) (μ (q + 2) op.toNat) μ23 H locs ls (by show_term (have zq191 : True := trivial; omega)) (by intro h8; exfalso; show_term (have zq192 : True := trivial; omega)) (by intro h8; exfalso; show_term (have zq193 : True := trivial; omega)) (by intro h8 h7; exfalso; rw [if_neg (by show_term (have zq194 : True := trivial; omega))] at hlf9; show_term (have zq195 : True := trivial; omega)) hP hS (lv_sub hl [0, 1, 4] rfl)
set_option maxHeartbeats 4000000 in
set_option maxRecDepth 100000 in
theorem TX4_seal_35b {p : Program} {l : Launch} {e : Env} {R : Room} {s : State} {m : MethodId} {args : Array Value} {below : List Frame} {meth : Method} {c : Code} {cells slots : Nat} {Q : State → Prop} {dC : Nat → ClassId} {dI : Nat → Nat → Nat} {h0 : Nat} {cI cZ cII cIII : ClassId} (hx : p.tables.exec = Jvm.exec) (hb : c.code = cX4_seal) (hml : c.maxLocals = 5) (hown : s.vm.findClass RX4 = some m.cls) (hts : ∀ w ∈ wsG, w.before args s = true) (hK : va_K (dC, dI) vwCl (sT cI cZ cII cIII) s) (hM : xM s) (hRf : 2 ≤ R.frames) (hRl : 34 ≤ R.locals) (hRc : cells ≤ R.cells) (hRs : slots ≤ R.slots) (μ0 : va_M) (q : Nat) (rm : Nat) (hq : rowB q rm) (hlen : 0 ≤ μ0 q 5 ∧ μ0 q 5 ≤ rm) (hexit175 : ∀ (i : Int) (op : Int) (μ : va_M) (H : Heap) (locs : List Loc) (ls : Array Slot), (μ = μ0) → va_P (dC, dI) vwCl (fw (sE cI cZ cII cIII h0) h0 233 μ) H → va_S (fA h0 233 s.heap.size) s.heap H locs → lv_has ls 5 [(0, .ref (h0 + q))] → W p l e R s m args below meth c H locs cells slots Q (F0 m 175 ls [])) :
    ∀ (i : Int) (op : Int) (μ : va_M) (H : Heap) (locs : List Loc) (ls : Array Slot), (μ = μ0) → (i = μ0 q 5) → va_P (dC, dI) vwCl (fw (sE cI cZ cII cIII h0) h0 233 μ) H → va_S (fA h0 233 s.heap.size) s.heap H locs → lv_has ls 5 [(2, .int (iZ (i))), (1, .int (iZ (op))), (0, .ref (h0 + q))] → W p l e R s m args below meth c H locs cells slots Q (F0 m 35 ls []) := by
  intro i op μ H locs ls hm9_ hi hP hS hl
  subst hm9_
  have hqb := rowB_b hq
  refine lv_iload_n hx hb dX4_seal_35 rfl (lv_at hl 0 rfl) ?_
  refine lv_aload_n hx hb dX4_seal_36 rfl (lv_at hl 2 rfl) ?_
  refine fz_get (D := (dC, dI)) (ci := 4) (v := .int (iZ (μ q 5))) (C := RX4) (T := TX4) (N := 8) hx hb hts inG4 hown hK hP (k := q) (by show_term (have zq196 : True := trivial; omega)) (F := (sRF h0 q)) (sE_rowO hq) rfl 5 (by decide) (hts _ k92) (fun _ h9 => h9) rfl dX4_seal_37 ?_
  refine fz_icmp_ge (tgt := 175) (by constructor <;> show_term (have zq197 : True := trivial; omega)) (by constructor <;> show_term (have zq198 : True := trivial; omega)) hx hb dX4_seal_40 (by decide) (fun c40_ => ?_) (fun h9 => (by show_term (have zq199 : True := trivial; omega)))
  exact hexit175 (i) (op) μ H locs ls (by rfl) hP hS (lv_sub hl [2] rfl)

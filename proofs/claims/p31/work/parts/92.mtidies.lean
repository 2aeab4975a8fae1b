set_option maxRecDepth 100000 in
theorem k1204 : (Cond.fieldLink "PageSkeletonModel" (287 : Nat) "PageSkeletonModel" "tidied" "I") ∈ wsG := wsG_a6 4 rfl rfl
set_option maxRecDepth 100000 in
theorem k1444 : (Cond.methodLink "PageSkeletonModel" (280 : Nat) ({ cls := "PageSkeletonModel", name := "tidies", desc := "(IIII)V" } : MethodName)) ∈ wsG := wsG_a7 4 rfl rfl
set_option maxRecDepth 100000 in
theorem k1446 : (Cond.instanceMethod ({ cls := "PageSkeletonModel", name := "tidies", desc := "(IIII)V" } : MethodName)) ∈ wsG := wsG_a7 6 rfl rfl
set_option maxRecDepth 100000 in
theorem k1447 : (Cond.code ({ cls := "PageSkeletonModel", name := "tidies", desc := "(IIII)V" } : MethodName) prog_12_method_42_code (9 : Nat) (Option.none : Option Jvm.ClassFile.FieldType)) ∈ wsG := wsG_a7 7 rfl rfl
set_option maxRecDepth 100000 in
theorem k1448 : (Cond.methodLink "PageSkeletonModel" (284 : Nat) ({ cls := "PageSkeletonModel", name := "tidiesOne", desc := "(I)Z" } : MethodName)) ∈ wsG := wsG_a7 8 rfl rfl
set_option maxRecDepth 100000 in
theorem k1450 : (Cond.instanceMethod ({ cls := "PageSkeletonModel", name := "tidiesOne", desc := "(I)Z" } : MethodName)) ∈ wsG := wsG_a7 10 rfl rfl
set_option maxRecDepth 100000 in
theorem k1451 : (Cond.code ({ cls := "PageSkeletonModel", name := "tidiesOne", desc := "(I)Z" } : MethodName) prog_12_method_43_code (4 : Nat) (Option.some FieldType.boolean)) ∈ wsG := wsG_a7 11 rfl rfl
set_option maxRecDepth 100000 in
theorem ks_yX10_tidies : Cond.selects RX10 yX10_tidies yX10_tidies ∈ wsG := wsG_p 70 rfl rfl
set_option maxRecDepth 100000 in
theorem ks_yX10_tidiesOne : Cond.selects RX10 yX10_tidiesOne yX10_tidiesOne ∈ wsG := wsG_p 71 rfl rfl
theorem dX10_tidies_0 : decode cX10_tidies 0 = .ok (.bipush 54, 2) := by decide +kernel
theorem dX10_tidies_2 : decode cX10_tidies 2 = .ok (.iload 4, 2) := by decide +kernel
theorem dX10_tidies_4 : decode cX10_tidies 4 = .ok (.iadd, 1) := by decide +kernel
theorem dX10_tidies_5 : decode cX10_tidies 5 = .ok (.istore 5, 2) := by decide +kernel
theorem dX10_tidies_7 : decode cX10_tidies 7 = .ok (.aload_n 0, 1) := by decide +kernel
theorem dX10_tidies_8 : decode cX10_tidies 8 = .ok (.iload 5, 2) := by decide +kernel
theorem dX10_tidies_10 : decode cX10_tidies 10 = .ok (.invokevirtual 197, 3) := by decide +kernel
theorem dX10_tidies_13 : decode cX10_tidies 13 = .ok (.iload_n 2, 1) := by decide +kernel
theorem dX10_tidies_14 : decode cX10_tidies 14 = .ok (.istore 6, 2) := by decide +kernel
theorem dX10_tidies_16 : decode cX10_tidies 16 = .ok (.iload 6, 2) := by decide +kernel
theorem dX10_tidies_18 : decode cX10_tidies 18 = .ok (.iload_n 3, 1) := by decide +kernel
theorem dX10_tidies_19 : decode cX10_tidies 19 = .ok (.if_icmp .ge 145, 3) := by decide +kernel
theorem dX10_tidies_22 : decode cX10_tidies 22 = .ok (.aload_n 0, 1) := by decide +kernel
theorem dX10_tidies_23 : decode cX10_tidies 23 = .ok (.getfield 45, 3) := by decide +kernel
theorem dX10_tidies_26 : decode cX10_tidies 26 = .ok (.iload_n 1, 1) := by decide +kernel
theorem dX10_tidies_27 : decode cX10_tidies 27 = .ok (.aaload, 1) := by decide +kernel
theorem dX10_tidies_28 : decode cX10_tidies 28 = .ok (.iload 6, 2) := by decide +kernel
theorem dX10_tidies_30 : decode cX10_tidies 30 = .ok (.iaload, 1) := by decide +kernel
theorem dX10_tidies_31 : decode cX10_tidies 31 = .ok (.iconst 3, 1) := by decide +kernel
theorem dX10_tidies_32 : decode cX10_tidies 32 = .ok (.if_icmp .ge 15, 3) := by decide +kernel
theorem dX10_tidies_35 : decode cX10_tidies 35 = .ok (.aload_n 0, 1) := by decide +kernel
theorem dX10_tidies_36 : decode cX10_tidies 36 = .ok (.iload_n 1, 1) := by decide +kernel
theorem dX10_tidies_37 : decode cX10_tidies 37 = .ok (.iload 6, 2) := by decide +kernel
theorem dX10_tidies_39 : decode cX10_tidies 39 = .ok (.iload 5, 2) := by decide +kernel
theorem dX10_tidies_41 : decode cX10_tidies 41 = .ok (.invokevirtual 200, 3) := by decide +kernel
theorem dX10_tidies_44 : decode cX10_tidies 44 = .ok (.goto 103, 3) := by decide +kernel
theorem dX10_tidies_47 : decode cX10_tidies 47 = .ok (.aload_n 0, 1) := by decide +kernel
theorem dX10_tidies_48 : decode cX10_tidies 48 = .ok (.iload_n 1, 1) := by decide +kernel
theorem dX10_tidies_49 : decode cX10_tidies 49 = .ok (.iload 6, 2) := by decide +kernel
theorem dX10_tidies_51 : decode cX10_tidies 51 = .ok (.iconst 1, 1) := by decide +kernel
theorem dX10_tidies_52 : decode cX10_tidies 52 = .ok (.iadd, 1) := by decide +kernel
theorem dX10_tidies_53 : decode cX10_tidies 53 = .ok (.iload 6, 2) := by decide +kernel
theorem dX10_tidies_55 : decode cX10_tidies 55 = .ok (.aload_n 0, 1) := by decide +kernel
theorem dX10_tidies_56 : decode cX10_tidies 56 = .ok (.getfield 51, 3) := by decide +kernel
theorem dX10_tidies_59 : decode cX10_tidies 59 = .ok (.iload_n 1, 1) := by decide +kernel
theorem dX10_tidies_60 : decode cX10_tidies 60 = .ok (.aaload, 1) := by decide +kernel
theorem dX10_tidies_61 : decode cX10_tidies 61 = .ok (.iload 6, 2) := by decide +kernel
theorem dX10_tidies_63 : decode cX10_tidies 63 = .ok (.iaload, 1) := by decide +kernel
theorem dX10_tidies_64 : decode cX10_tidies 64 = .ok (.iadd, 1) := by decide +kernel
theorem dX10_tidies_65 : decode cX10_tidies 65 = .ok (.iload 4, 2) := by decide +kernel
theorem dX10_tidies_67 : decode cX10_tidies 67 = .ok (.iconst 1, 1) := by decide +kernel
theorem dX10_tidies_68 : decode cX10_tidies 68 = .ok (.iadd, 1) := by decide +kernel
theorem dX10_tidies_69 : decode cX10_tidies 69 = .ok (.invokevirtual 280, 3) := by decide +kernel
theorem dX10_tidies_72 : decode cX10_tidies 72 = .ok (.aload_n 0, 1) := by decide +kernel
theorem dX10_tidies_73 : decode cX10_tidies 73 = .ok (.iload 5, 2) := by decide +kernel
theorem dX10_tidies_75 : decode cX10_tidies 75 = .ok (.aload_n 0, 1) := by decide +kernel
theorem dX10_tidies_76 : decode cX10_tidies 76 = .ok (.getfield 45, 3) := by decide +kernel
theorem dX10_tidies_79 : decode cX10_tidies 79 = .ok (.iload_n 1, 1) := by decide +kernel
theorem dX10_tidies_80 : decode cX10_tidies 80 = .ok (.aaload, 1) := by decide +kernel
theorem dX10_tidies_81 : decode cX10_tidies 81 = .ok (.iload 6, 2) := by decide +kernel
theorem dX10_tidies_83 : decode cX10_tidies 83 = .ok (.iaload, 1) := by decide +kernel
theorem dX10_tidies_84 : decode cX10_tidies 84 = .ok (.iconst (-1), 1) := by decide +kernel
theorem dX10_tidies_85 : decode cX10_tidies 85 = .ok (.invokevirtual 193, 3) := by decide +kernel
theorem dX10_tidies_88 : decode cX10_tidies 88 = .ok (.istore 7, 2) := by decide +kernel
theorem dX10_tidies_90 : decode cX10_tidies 90 = .ok (.iconst 0, 1) := by decide +kernel
theorem dX10_tidies_91 : decode cX10_tidies 91 = .ok (.istore 8, 2) := by decide +kernel
theorem dX10_tidies_93 : decode cX10_tidies 93 = .ok (.iload 8, 2) := by decide +kernel
theorem dX10_tidies_95 : decode cX10_tidies 95 = .ok (.aload_n 0, 1) := by decide +kernel
theorem dX10_tidies_96 : decode cX10_tidies 96 = .ok (.getfield 54, 3) := by decide +kernel
theorem dX10_tidies_99 : decode cX10_tidies 99 = .ok (.iload 5, 2) := by decide +kernel
theorem dX10_tidies_101 : decode cX10_tidies 101 = .ok (.iconst 1, 1) := by decide +kernel
theorem dX10_tidies_102 : decode cX10_tidies 102 = .ok (.iadd, 1) := by decide +kernel
theorem dX10_tidies_103 : decode cX10_tidies 103 = .ok (.iaload, 1) := by decide +kernel
theorem dX10_tidies_104 : decode cX10_tidies 104 = .ok (.if_icmp .ge 35, 3) := by decide +kernel
theorem dX10_tidies_107 : decode cX10_tidies 107 = .ok (.aload_n 0, 1) := by decide +kernel
theorem dX10_tidies_108 : decode cX10_tidies 108 = .ok (.iload 5, 2) := by decide +kernel
theorem dX10_tidies_110 : decode cX10_tidies 110 = .ok (.iconst 1, 1) := by decide +kernel
theorem dX10_tidies_111 : decode cX10_tidies 111 = .ok (.iadd, 1) := by decide +kernel
theorem dX10_tidies_112 : decode cX10_tidies 112 = .ok (.iload 8, 2) := by decide +kernel
theorem dX10_tidies_114 : decode cX10_tidies 114 = .ok (.iload 5, 2) := by decide +kernel
theorem dX10_tidies_116 : decode cX10_tidies 116 = .ok (.invokevirtual 200, 3) := by decide +kernel
theorem dX10_tidies_119 : decode cX10_tidies 119 = .ok (.iload 8, 2) := by decide +kernel
theorem dX10_tidies_121 : decode cX10_tidies 121 = .ok (.aload_n 0, 1) := by decide +kernel
theorem dX10_tidies_122 : decode cX10_tidies 122 = .ok (.getfield 51, 3) := by decide +kernel
theorem dX10_tidies_125 : decode cX10_tidies 125 = .ok (.iload 5, 2) := by decide +kernel
theorem dX10_tidies_127 : decode cX10_tidies 127 = .ok (.iconst 1, 1) := by decide +kernel
theorem dX10_tidies_128 : decode cX10_tidies 128 = .ok (.iadd, 1) := by decide +kernel
theorem dX10_tidies_129 : decode cX10_tidies 129 = .ok (.aaload, 1) := by decide +kernel
theorem dX10_tidies_130 : decode cX10_tidies 130 = .ok (.iload 8, 2) := by decide +kernel
theorem dX10_tidies_132 : decode cX10_tidies 132 = .ok (.iaload, 1) := by decide +kernel
theorem dX10_tidies_133 : decode cX10_tidies 133 = .ok (.iadd, 1) := by decide +kernel
theorem dX10_tidies_134 : decode cX10_tidies 134 = .ok (.istore 8, 2) := by decide +kernel
theorem dX10_tidies_136 : decode cX10_tidies 136 = .ok (.goto (-43), 3) := by decide +kernel
theorem dX10_tidies_139 : decode cX10_tidies 139 = .ok (.aload_n 0, 1) := by decide +kernel
theorem dX10_tidies_140 : decode cX10_tidies 140 = .ok (.iload 5, 2) := by decide +kernel
theorem dX10_tidies_142 : decode cX10_tidies 142 = .ok (.iload 7, 2) := by decide +kernel
theorem dX10_tidies_144 : decode cX10_tidies 144 = .ok (.invokevirtual 219, 3) := by decide +kernel
theorem dX10_tidies_147 : decode cX10_tidies 147 = .ok (.iload 6, 2) := by decide +kernel
theorem dX10_tidies_149 : decode cX10_tidies 149 = .ok (.aload_n 0, 1) := by decide +kernel
theorem dX10_tidies_150 : decode cX10_tidies 150 = .ok (.getfield 51, 3) := by decide +kernel
theorem dX10_tidies_153 : decode cX10_tidies 153 = .ok (.iload_n 1, 1) := by decide +kernel
theorem dX10_tidies_154 : decode cX10_tidies 154 = .ok (.aaload, 1) := by decide +kernel
theorem dX10_tidies_155 : decode cX10_tidies 155 = .ok (.iload 6, 2) := by decide +kernel
theorem dX10_tidies_157 : decode cX10_tidies 157 = .ok (.iaload, 1) := by decide +kernel
theorem dX10_tidies_158 : decode cX10_tidies 158 = .ok (.iadd, 1) := by decide +kernel
theorem dX10_tidies_159 : decode cX10_tidies 159 = .ok (.istore 6, 2) := by decide +kernel
theorem dX10_tidies_161 : decode cX10_tidies 161 = .ok (.goto (-145), 3) := by decide +kernel
theorem dX10_tidies_164 : decode cX10_tidies 164 = .ok (.aload_n 0, 1) := by decide +kernel
theorem dX10_tidies_165 : decode cX10_tidies 165 = .ok (.iload 5, 2) := by decide +kernel
theorem dX10_tidies_167 : decode cX10_tidies 167 = .ok (.invokevirtual 284, 3) := by decide +kernel
theorem dX10_tidies_170 : decode cX10_tidies 170 = .ok (.ifCond .eq 16, 3) := by decide +kernel
theorem dX10_tidies_173 : decode cX10_tidies 173 = .ok (.aload_n 0, 1) := by decide +kernel
theorem dX10_tidies_174 : decode cX10_tidies 174 = .ok (.dup, 1) := by decide +kernel
theorem dX10_tidies_175 : decode cX10_tidies 175 = .ok (.getfield 287, 3) := by decide +kernel
theorem dX10_tidies_178 : decode cX10_tidies 178 = .ok (.iconst 1, 1) := by decide +kernel
theorem dX10_tidies_179 : decode cX10_tidies 179 = .ok (.iadd, 1) := by decide +kernel
theorem dX10_tidies_180 : decode cX10_tidies 180 = .ok (.putfield 287, 3) := by decide +kernel
theorem dX10_tidies_183 : decode cX10_tidies 183 = .ok (.goto (-19), 3) := by decide +kernel
theorem dX10_tidies_186 : decode cX10_tidies 186 = .ok (.return_, 1) := by decide +kernel
/-! what is in a row, each inner row tidied first -/
def rapp : Rw → Rw → Rw
  | .leaf, x => x
  | .inner z k v l r, x => .inner z k v l (rapp r x)
theorem rapp_N : ∀ p x : Rw, rN (rapp p x) = rN p + rN x
  | .leaf, x => (Nat.zero_add _).symm
  | .inner z k v l r, x => by rw [rapp, rN_in, rN_in, rapp_N r x]; omega
theorem RA_app {μ : va_M} {t : Nat} : ∀ (p x : Rw) (q : Nat), RA μ t p q → RA μ t x (q + rN p) → RA μ t (rapp p x) q
  | .leaf, _, _, _, h => h
  | .inner z k v l r, x, q, ⟨h1, h2, h3, h4, h5⟩, h => by
    rw [rN_in] at h
    exact ⟨h1, h2, h3, h4, RA_app r x _ h5 (by rw [show q + 1 + rN l + rN r = q + (1 + rN l + rN r) by omega]; exact h)⟩
theorem RTd_app : ∀ {a b x y : Rw}, RTd a b → RTd x y → RTd (rapp a x) (rapp b y)
  | .leaf, .leaf, _, _, _, h => h
  | .leaf, .inner _ _ _ _ _, _, _, h, _ => h.elim
  | .inner _ _ _ _ _, .leaf, _, _, h, _ => h.elim
  | .inner _ _ _ _ _, .inner _ _ _ _ _, _, _, h, h2 => ⟨h.1, h.2.1, RTd_app h.2.2 h2⟩
theorem rapp_pre : ∀ (m : Nat) (w x : Rw), rapp (rpre m w .leaf) x = rpre m w x
  | 0, _, _ => rfl
  | _ + 1, .leaf, _ => rfl
  | m + 1, .inner z k v l r, x => by rw [rpre, rpre, rapp, rapp_pre m r x]
theorem pre_all : ∀ w : Rw, rpre (rI w) w .leaf = w
  | .leaf => rfl
  | .inner z k v l r => by rw [rI_in, Nat.add_comm, rpre, pre_all r]
/-- the row as far as it is made, with one item more -/
theorem RTd_more {m : Nat} {w p : Rw} {z k z2 : Nat} {v v2 : Int} {l r l2 : Rw} (h : RTd (rpre m w .leaf) p) (hk : rdrop m w = .inner z k v l r) (h2 : (k < 3 ∧ v = v2 ∧ l = l2) ∨ (3 ≤ k ∧ v2 = -1 ∧ TDr l l2)) : RTd (rpre (m + 1) w .leaf) (rapp p (.inner z2 k v2 l2 .leaf)) := by
  rw [rpre_S _ _ _ _ _ _ _ _ hk, ← rapp_pre m w (.inner z k v l .leaf)]
  exact RTd_app h ⟨rfl, h2, trivial⟩
theorem OKr_pre {w : Rw} (h : OKr w) {m : Nat} (hm : m ≤ rI w) : OKr (rpre m w .leaf) := by
  obtain ⟨a1, a2, a3, a4⟩ := h
  obtain ⟨b1, b2, b3⟩ := row_cut m w
  refine ⟨rpre_WF _ _ _ a1 trivial, rAd_pre m w a2, by omega, ?_⟩
  rcases a4 with ⟨L, V, f, c1, c2, c3⟩ | ⟨c1, c2⟩
  · obtain ⟨fa, fb, d1, d2, d3⟩ := PL_cut m w hm c2
    exact Or.inl ⟨L, V, fa, c1, d2, fun e he => by have := d1 e he; have := c3 e he; omega⟩
  · have h9 := rpre_T m w .leaf
    have e0 : rT (Std.DTreeMap.Internal.Impl.leaf : Rw) = 0 := rfl
    exact Or.inr ⟨rpre_Pg _ _ _ c1 trivial, by omega⟩
theorem OKr_drop {w : Rw} (h : OKr w) : ∀ m : Nat, OKr (rdrop m w)
  | 0 => h
  | m + 1 => by
    have h9 := OKr_drop h m
    rw [rdrop_add m 1 w]
    cases hx : rdrop m w with
    | leaf => rw [hx] at h9; exact h9
    | inner z k v l r =>
      rw [hx] at h9
      have e : rdrop 1 (Std.DTreeMap.Internal.Impl.inner z k v l r : Rw) = r := by cases r <;> rfl
      rw [e]
      exact (OKr_in h9).1
theorem OKr_RT {m : Nat} {w p : Rw} (h : OKr w) (hm : m ≤ rI w) (hp : RTd (rpre m w .leaf) p) : OKr p := OKr_TD (RTd_is _ _ hp).1 (OKr_pre h hm)
theorem TR_more {μ u : va_M} {t : Nat} {p x : Rw} (h : TR μ t p) (hf : fr (PG t (rN p)) μ u) (hn : u 719 t = rN p + rN x) (hx : RA u t x (rN p)) (ht : t < 70) : TR u t (rapp p x) := by
  refine ⟨by rw [hn, rapp_N]; omega, RA_app p x 0 (RA_kept h.2 (fun y _ hy => ⟨hf _ _ (by unfold PG; omega), hf _ _ (by unfold PG; omega), hf _ _ (by unfold PG; omega)⟩)) (by rw [Nat.zero_add]; exact hx)⟩
theorem TR_0 {μ : va_M} {t : Nat} {w : Rw} {y : Nat} {z : Int} (h : TR μ t w) : TR (uz μ 0 y z) t w :=
  TR_fr (P := fun x _ => x = 0) h (fr_uz fr_rfl rfl) (fun x => ⟨fun h9 => by have h8 : 507 + t = 0 := h9; omega, fun h9 => by have h8 : 578 + t = 0 := h9; omega, fun h9 => by have h8 : 649 + t = 0 := h9; omega⟩) (fun h9 => by have h8 : 719 = 0 := h9; omega)
def TC (n x y : Nat) : Prop := (561 + n ≤ x ∧ x < 577) ∨ (632 + n ≤ x ∧ x < 648) ∨ (703 + n ≤ x ∧ x < 719) ∨ (x = 719 ∧ 54 + n ≤ y ∧ y < 70) ∨ P8 x y ∨ x = 723 ∨ x = 752 ∨ (x = 0 ∧ y = 38)
theorem TC_up {n x y : Nat} (h : TC (n + 1) x y) : TC n x y := by
  unfold TC at h ⊢
  rcases h with h | h | h | h | h | h | h | h
  · exact Or.inl ⟨by omega, h.2⟩
  · exact Or.inr (Or.inl ⟨by omega, h.2⟩)
  · exact Or.inr (Or.inr (Or.inl ⟨by omega, h.2⟩))
  · exact Or.inr (Or.inr (Or.inr (Or.inl ⟨h.1, by omega, h.2.2⟩)))
  · exact Or.inr (Or.inr (Or.inr (Or.inr (Or.inl h))))
  · exact Or.inr (Or.inr (Or.inr (Or.inr (Or.inr (Or.inl h)))))
  · exact Or.inr (Or.inr (Or.inr (Or.inr (Or.inr (Or.inr (Or.inl h))))))
  · exact Or.inr (Or.inr (Or.inr (Or.inr (Or.inr (Or.inr (Or.inr h))))))
theorem TC_PG {n t m x y : Nat} (ht : t = 54 + n) (h16 : n < 16) (h : PG t m x y) : TC n x y := by unfold PG at h; unfold TC; omega
theorem TC_FQ {n t x y : Nat} (ht : t = 54 + n) (h16 : n < 16) (h : FQ t x y) : TC n x y := by unfold FQ FP P8 PT at h; unfold TC P8 PT; omega
theorem TC_0 {n x y : Nat} (h : x < 557) (h0 : 1 ≤ x) : ¬ TC n x y := by unfold TC P8 PT; omega
theorem rO_bl {w : Rw} {m : Nat} (hm : m ≤ rI w) (h : rO w m < rN w) : m < rI w := by
  by_cases h9 : m = rI w
  · rw [h9, (rO_end w).1] at h; omega
  · omega

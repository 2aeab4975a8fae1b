theorem k1204 : (Cond.fieldLink "PageSkeletonModel" (287 : Nat) "PageSkeletonModel" "tidied" "I") ∈ wsG := wsG_at 1204 (by decide +kernel) (by decide +kernel)
theorem k1444 : (Cond.methodLink "PageSkeletonModel" (280 : Nat) ({ cls := "PageSkeletonModel", name := "tidies", desc := "(IIII)V" } : MethodName)) ∈ wsG := wsG_at 1444 (by decide +kernel) (by decide +kernel)
theorem k1446 : (Cond.instanceMethod ({ cls := "PageSkeletonModel", name := "tidies", desc := "(IIII)V" } : MethodName)) ∈ wsG := wsG_at 1446 (by decide +kernel) (by decide +kernel)
theorem k1447 : (Cond.code ({ cls := "PageSkeletonModel", name := "tidies", desc := "(IIII)V" } : MethodName) prog_12_method_42_code (9 : Nat) (Option.none : Option Jvm.ClassFile.FieldType)) ∈ wsG := wsG_at 1447 (by decide +kernel) (by decide +kernel)
theorem k1448 : (Cond.methodLink "PageSkeletonModel" (284 : Nat) ({ cls := "PageSkeletonModel", name := "tidiesOne", desc := "(I)Z" } : MethodName)) ∈ wsG := wsG_at 1448 (by decide +kernel) (by decide +kernel)
theorem k1450 : (Cond.instanceMethod ({ cls := "PageSkeletonModel", name := "tidiesOne", desc := "(I)Z" } : MethodName)) ∈ wsG := wsG_at 1450 (by decide +kernel) (by decide +kernel)
theorem k1451 : (Cond.code ({ cls := "PageSkeletonModel", name := "tidiesOne", desc := "(I)Z" } : MethodName) prog_12_method_43_code (4 : Nat) (Option.some FieldType.boolean)) ∈ wsG := wsG_at 1451 (by decide +kernel) (by decide +kernel)
theorem ks_yX10_tidies : Cond.selects RX10 yX10_tidies yX10_tidies ∈ wsG := wsG_mem (by decide +kernel) (by decide +kernel)
theorem ks_yX10_tidiesOne : Cond.selects RX10 yX10_tidiesOne yX10_tidiesOne ∈ wsG := wsG_mem (by decide +kernel) (by decide +kernel)
theorem dX10_tidies_0 : decode cX10_tidies 0 = .ok (.bipush 54, 2) := by decide +kernel
theorem dX10_tidies_2 : decode cX10_tidies 2 = .ok (.iload 4, 2) := by decide +kernel
theorem dX10_tidies_4 : decode cX10_tidies 4 = .ok (.iadd, 1) := by decide +kernel
theorem dX10_tidies_5 : decode cX10_tidies 5 = .ok (.istore 5, 2) := by decide +kernel
theorem dX10_tidies_7 : decode cX10_tidies 7 = .ok (.aload_n 0, 1) := by decide +kernel
theorem dX10_tidies_8 : decode cX10_tidies 8 = .ok (.iload 5, 2) := by decide +kernel
theorem dX10_tidies_10 : decode cX10_tidies 10 = .ok (.invokevirtual 197, 3) := by decide +kernel
theorem dX10_tidies_13 : decode cX10_tidies 13 = .ok (.iload_n 2, 1) := by decide +kernel
theorem dX10_tidies_14 : decode cX10_tidies 14 = .ok (.istore 6, 2) := by decide +kernel
theorem dX10_tidies_16 : decode cX10_tidies 16 = .ok (.iload 6, 2) := by decide +kernel
theorem dX10_tidies_18 : decode cX10_tidies 18 = .ok (.iload_n 3, 1) := by decide +kernel
theorem dX10_tidies_19 : decode cX10_tidies 19 = .ok (.if_icmp .ge 145, 3) := by decide +kernel
theorem dX10_tidies_22 : decode cX10_tidies 22 = .ok (.aload_n 0, 1) := by decide +kernel
theorem dX10_tidies_23 : decode cX10_tidies 23 = .ok (.getfield 45, 3) := by decide +kernel
theorem dX10_tidies_26 : decode cX10_tidies 26 = .ok (.iload_n 1, 1) := by decide +kernel
theorem dX10_tidies_27 : decode cX10_tidies 27 = .ok (.aaload, 1) := by decide +kernel
theorem dX10_tidies_28 : decode cX10_tidies 28 = .ok (.iload 6, 2) := by decide +kernel
theorem dX10_tidies_30 : decode cX10_tidies 30 = .ok (.iaload, 1) := by decide +kernel
theorem dX10_tidies_31 : decode cX10_tidies 31 = .ok (.iconst 3, 1) := by decide +kernel
theorem dX10_tidies_32 : decode cX10_tidies 32 = .ok (.if_icmp .ge 15, 3) := by decide +kernel
theorem dX10_tidies_35 : decode cX10_tidies 35 = .ok (.aload_n 0, 1) := by decide +kernel
theorem dX10_tidies_36 : decode cX10_tidies 36 = .ok (.iload_n 1, 1) := by decide +kernel
theorem dX10_tidies_37 : decode cX10_tidies 37 = .ok (.iload 6, 2) := by decide +kernel
theorem dX10_tidies_39 : decode cX10_tidies 39 = .ok (.iload 5, 2) := by decide +kernel
theorem dX10_tidies_41 : decode cX10_tidies 41 = .ok (.invokevirtual 200, 3) := by decide +kernel
theorem dX10_tidies_44 : decode cX10_tidies 44 = .ok (.goto 103, 3) := by decide +kernel
theorem dX10_tidies_47 : decode cX10_tidies 47 = .ok (.aload_n 0, 1) := by decide +kernel
theorem dX10_tidies_48 : decode cX10_tidies 48 = .ok (.iload_n 1, 1) := by decide +kernel
theorem dX10_tidies_49 : decode cX10_tidies 49 = .ok (.iload 6, 2) := by decide +kernel
theorem dX10_tidies_51 : decode cX10_tidies 51 = .ok (.iconst 1, 1) := by decide +kernel
theorem dX10_tidies_52 : decode cX10_tidies 52 = .ok (.iadd, 1) := by decide +kernel
theorem dX10_tidies_53 : decode cX10_tidies 53 = .ok (.iload 6, 2) := by decide +kernel
theorem dX10_tidies_55 : decode cX10_tidies 55 = .ok (.aload_n 0, 1) := by decide +kernel
theorem dX10_tidies_56 : decode cX10_tidies 56 = .ok (.getfield 51, 3) := by decide +kernel
theorem dX10_tidies_59 : decode cX10_tidies 59 = .ok (.iload_n 1, 1) := by decide +kernel
theorem dX10_tidies_60 : decode cX10_tidies 60 = .ok (.aaload, 1) := by decide +kernel
theorem dX10_tidies_61 : decode cX10_tidies 61 = .ok (.iload 6, 2) := by decide +kernel
theorem dX10_tidies_63 : decode cX10_tidies 63 = .ok (.iaload, 1) := by decide +kernel
theorem dX10_tidies_64 : decode cX10_tidies 64 = .ok (.iadd, 1) := by decide +kernel
theorem dX10_tidies_65 : decode cX10_tidies 65 = .ok (.iload 4, 2) := by decide +kernel
theorem dX10_tidies_67 : decode cX10_tidies 67 = .ok (.iconst 1, 1) := by decide +kernel
theorem dX10_tidies_68 : decode cX10_tidies 68 = .ok (.iadd, 1) := by decide +kernel
theorem dX10_tidies_69 : decode cX10_tidies 69 = .ok (.invokevirtual 280, 3) := by decide +kernel
theorem dX10_tidies_72 : decode cX10_tidies 72 = .ok (.aload_n 0, 1) := by decide +kernel
theorem dX10_tidies_73 : decode cX10_tidies 73 = .ok (.iload 5, 2) := by decide +kernel
theorem dX10_tidies_75 : decode cX10_tidies 75 = .ok (.aload_n 0, 1) := by decide +kernel
theorem dX10_tidies_76 : decode cX10_tidies 76 = .ok (.getfield 45, 3) := by decide +kernel
theorem dX10_tidies_79 : decode cX10_tidies 79 = .ok (.iload_n 1, 1) := by decide +kernel
theorem dX10_tidies_80 : decode cX10_tidies 80 = .ok (.aaload, 1) := by decide +kernel
theorem dX10_tidies_81 : decode cX10_tidies 81 = .ok (.iload 6, 2) := by decide +kernel
theorem dX10_tidies_83 : decode cX10_tidies 83 = .ok (.iaload, 1) := by decide +kernel
theorem dX10_tidies_84 : decode cX10_tidies 84 = .ok (.iconst (-1), 1) := by decide +kernel
theorem dX10_tidies_85 : decode cX10_tidies 85 = .ok (.invokevirtual 193, 3) := by decide +kernel
theorem dX10_tidies_88 : decode cX10_tidies 88 = .ok (.istore 7, 2) := by decide +kernel
theorem dX10_tidies_90 : decode cX10_tidies 90 = .ok (.iconst 0, 1) := by decide +kernel
theorem dX10_tidies_91 : decode cX10_tidies 91 = .ok (.istore 8, 2) := by decide +kernel
theorem dX10_tidies_93 : decode cX10_tidies 93 = .ok (.iload 8, 2) := by decide +kernel
theorem dX10_tidies_95 : decode cX10_tidies 95 = .ok (.aload_n 0, 1) := by decide +kernel
theorem dX10_tidies_96 : decode cX10_tidies 96 = .ok (.getfield 54, 3) := by decide +kernel
theorem dX10_tidies_99 : decode cX10_tidies 99 = .ok (.iload 5, 2) := by decide +kernel
theorem dX10_tidies_101 : decode cX10_tidies 101 = .ok (.iconst 1, 1) := by decide +kernel
theorem dX10_tidies_102 : decode cX10_tidies 102 = .ok (.iadd, 1) := by decide +kernel
theorem dX10_tidies_103 : decode cX10_tidies 103 = .ok (.iaload, 1) := by decide +kernel
theorem dX10_tidies_104 : decode cX10_tidies 104 = .ok (.if_icmp .ge 35, 3) := by decide +kernel
theorem dX10_tidies_107 : decode cX10_tidies 107 = .ok (.aload_n 0, 1) := by decide +kernel
theorem dX10_tidies_108 : decode cX10_tidies 108 = .ok (.iload 5, 2) := by decide +kernel
theorem dX10_tidies_110 : decode cX10_tidies 110 = .ok (.iconst 1, 1) := by decide +kernel
theorem dX10_tidies_111 : decode cX10_tidies 111 = .ok (.iadd, 1) := by decide +kernel
theorem dX10_tidies_112 : decode cX10_tidies 112 = .ok (.iload 8, 2) := by decide +kernel
theorem dX10_tidies_114 : decode cX10_tidies 114 = .ok (.iload 5, 2) := by decide +kernel
theorem dX10_tidies_116 : decode cX10_tidies 116 = .ok (.invokevirtual 200, 3) := by decide +kernel
theorem dX10_tidies_119 : decode cX10_tidies 119 = .ok (.iload 8, 2) := by decide +kernel
theorem dX10_tidies_121 : decode cX10_tidies 121 = .ok (.aload_n 0, 1) := by decide +kernel
theorem dX10_tidies_122 : decode cX10_tidies 122 = .ok (.getfield 51, 3) := by decide +kernel
theorem dX10_tidies_125 : decode cX10_tidies 125 = .ok (.iload 5, 2) := by decide +kernel
theorem dX10_tidies_127 : decode cX10_tidies 127 = .ok (.iconst 1, 1) := by decide +kernel
theorem dX10_tidies_128 : decode cX10_tidies 128 = .ok (.iadd, 1) := by decide +kernel
theorem dX10_tidies_129 : decode cX10_tidies 129 = .ok (.aaload, 1) := by decide +kernel
theorem dX10_tidies_130 : decode cX10_tidies 130 = .ok (.iload 8, 2) := by decide +kernel
theorem dX10_tidies_132 : decode cX10_tidies 132 = .ok (.iaload, 1) := by decide +kernel
theorem dX10_tidies_133 : decode cX10_tidies 133 = .ok (.iadd, 1) := by decide +kernel
theorem dX10_tidies_134 : decode cX10_tidies 134 = .ok (.istore 8, 2) := by decide +kernel
theorem dX10_tidies_136 : decode cX10_tidies 136 = .ok (.goto (-43), 3) := by decide +kernel
theorem dX10_tidies_139 : decode cX10_tidies 139 = .ok (.aload_n 0, 1) := by decide +kernel
theorem dX10_tidies_140 : decode cX10_tidies 140 = .ok (.iload 5, 2) := by decide +kernel
theorem dX10_tidies_142 : decode cX10_tidies 142 = .ok (.iload 7, 2) := by decide +kernel
theorem dX10_tidies_144 : decode cX10_tidies 144 = .ok (.invokevirtual 219, 3) := by decide +kernel
theorem dX10_tidies_147 : decode cX10_tidies 147 = .ok (.iload 6, 2) := by decide +kernel
theorem dX10_tidies_149 : decode cX10_tidies 149 = .ok (.aload_n 0, 1) := by decide +kernel
theorem dX10_tidies_150 : decode cX10_tidies 150 = .ok (.getfield 51, 3) := by decide +kernel
theorem dX10_tidies_153 : decode cX10_tidies 153 = .ok (.iload_n 1, 1) := by decide +kernel
theorem dX10_tidies_154 : decode cX10_tidies 154 = .ok (.aaload, 1) := by decide +kernel
theorem dX10_tidies_155 : decode cX10_tidies 155 = .ok (.iload 6, 2) := by decide +kernel
theorem dX10_tidies_157 : decode cX10_tidies 157 = .ok (.iaload, 1) := by decide +kernel
theorem dX10_tidies_158 : decode cX10_tidies 158 = .ok (.iadd, 1) := by decide +kernel
theorem dX10_tidies_159 : decode cX10_tidies 159 = .ok (.istore 6, 2) := by decide +kernel
theorem dX10_tidies_161 : decode cX10_tidies 161 = .ok (.goto (-145), 3) := by decide +kernel
theorem dX10_tidies_164 : decode cX10_tidies 164 = .ok (.aload_n 0, 1) := by decide +kernel
theorem dX10_tidies_165 : decode cX10_tidies 165 = .ok (.iload 5, 2) := by decide +kernel
theorem dX10_tidies_167 : decode cX10_tidies 167 = .ok (.invokevirtual 284, 3) := by decide +kernel
theorem dX10_tidies_170 : decode cX10_tidies 170 = .ok (.ifCond .eq 16, 3) := by decide +kernel
theorem dX10_tidies_173 : decode cX10_tidies 173 = .ok (.aload_n 0, 1) := by decide +kernel
theorem dX10_tidies_174 : decode cX10_tidies 174 = .ok (.dup, 1) := by decide +kernel
theorem dX10_tidies_175 : decode cX10_tidies 175 = .ok (.getfield 287, 3) := by decide +kernel
theorem dX10_tidies_178 : decode cX10_tidies 178 = .ok (.iconst 1, 1) := by decide +kernel
theorem dX10_tidies_179 : decode cX10_tidies 179 = .ok (.iadd, 1) := by decide +kernel
theorem dX10_tidies_180 : decode cX10_tidies 180 = .ok (.putfield 287, 3) := by decide +kernel
theorem dX10_tidies_183 : decode cX10_tidies 183 = .ok (.goto (-19), 3) := by decide +kernel
theorem dX10_tidies_186 : decode cX10_tidies 186 = .ok (.return_, 1) := by decide +kernel
/-! what is in a row, each inner row tidied first -/
def rapp : Rw → Rw → Rw
  | .leaf, x => x
  | .inner z k v l r, x => .inner z k v l (rapp r x)
theorem rapp_N : ∀ p x : Rw, rN (rapp p x) = rN p + rN x
  | .leaf, x => (Nat.zero_add _).symm
  | .inner z k v l r, x => by rw [rapp, rN_in, rN_in, rapp_N r x]; omega
theorem RA_app {μ : va_M} {t : Nat} : ∀ (p x : Rw) (q : Nat), RA μ t p q → RA μ t x (q + rN p) → RA μ t (rapp p x) q
  | .leaf, _, _, _, h => h
  | .inner z k v l r, x, q, ⟨h1, h2, h3, h4, h5⟩, h => by
    rw [rN_in] at h
    exact ⟨h1, h2, h3, h4, RA_app r x _ h5 (by rw [show q + 1 + rN l + rN r = q + (1 + rN l + rN r) by omega]; exact h)⟩
theorem RTd_app : ∀ {a b x y : Rw}, RTd a b → RTd x y → RTd (rapp a x) (rapp b y)
  | .leaf, .leaf, _, _, _, h => h
  | .leaf, .inner _ _ _ _ _, _, _, h, _ => h.elim
  | .inner _ _ _ _ _, .leaf, _, _, h, _ => h.elim
  | .inner _ _ _ _ _, .inner _ _ _ _ _, _, _, h, h2 => ⟨h.1, h.2.1, RTd_app h.2.2 h2⟩
theorem rapp_pre : ∀ (m : Nat) (w x : Rw), rapp (rpre m w .leaf) x = rpre m w x
  | 0, _, _ => rfl
  | _ + 1, .leaf, _ => rfl
  | m + 1, .inner z k v l r, x => by rw [rpre, rpre, rapp, rapp_pre m r x]
theorem pre_all : ∀ w : Rw, rpre (rI w) w .leaf = w
  | .leaf => rfl
  | .inner z k v l r => by rw [rI_in, Nat.add_comm, rpre, pre_all r]
/-- the row as far as it is made, with one item more -/
theorem RTd_more {m : Nat} {w p : Rw} {z k z2 : Nat} {v v2 : Int} {l r l2 : Rw} (h : RTd (rpre m w .leaf) p) (hk : rdrop m w = .inner z k v l r) (h2 : (k < 3 ∧ v = v2 ∧ l = l2) ∨ (3 ≤ k ∧ v2 = -1 ∧ TDr l l2)) : RTd (rpre (m + 1) w .leaf) (rapp p (.inner z2 k v2 l2 .leaf)) := by
  rw [rpre_S _ _ _ _ _ _ _ _ hk, ← rapp_pre m w (.inner z k v l .leaf)]
  exact RTd_app h ⟨rfl, h2, trivial⟩
theorem OKr_pre {w : Rw} (h : OKr w) {m : Nat} (hm : m ≤ rI w) : OKr (rpre m w .leaf) := by
  obtain ⟨a1, a2, a3, a4⟩ := h
  obtain ⟨b1, b2, b3⟩ := row_cut m w
  refine ⟨rpre_WF _ _ _ a1 trivial, rAd_pre m w a2, by omega, ?_⟩
  rcases a4 with ⟨L, V, f, c1, c2, c3⟩ | ⟨c1, c2⟩
  · obtain ⟨fa, fb, d1, d2, d3⟩ := PL_cut m w hm c2
    exact Or.inl ⟨L, V, fa, c1, d2, fun e he => by have := d1 e he; have := c3 e he; omega⟩
  · have h9 := rpre_T m w .leaf
    have e0 : rT (Std.DTreeMap.Internal.Impl.leaf : Rw) = 0 := rfl
    exact Or.inr ⟨rpre_Pg _ _ _ c1 trivial, by omega⟩
theorem OKr_drop {w : Rw} (h : OKr w) : ∀ m : Nat, OKr (rdrop m w)
  | 0 => h
  | m + 1 => by
    have h9 := OKr_drop h m
    rw [rdrop_add m 1 w]
    cases hx : rdrop m w with
    | leaf => rw [hx] at h9; exact h9
    | inner z k v l r =>
      rw [hx] at h9
      have e : rdrop 1 (Std.DTreeMap.Internal.Impl.inner z k v l r : Rw) = r := by cases r <;> rfl
      rw [e]
      exact (OKr_in h9).1
theorem OKr_RT {m : Nat} {w p : Rw} (h : OKr w) (hm : m ≤ rI w) (hp : RTd (rpre m w .leaf) p) : OKr p := OKr_TD (RTd_is _ _ hp).1 (OKr_pre h hm)
theorem TR_more {μ u : va_M} {t : Nat} {p x : Rw} (h : TR μ t p) (hf : fr (PG t (rN p)) μ u) (hn : u 719 t = rN p + rN x) (hx : RA u t x (rN p)) (ht : t < 70) : TR u t (rapp p x) := by
  refine ⟨by rw [hn, rapp_N]; omega, RA_app p x 0 (RA_kept h.2 (fun y _ hy => ⟨hf _ _ (by unfold PG; omega), hf _ _ (by unfold PG; omega), hf _ _ (by unfold PG; omega)⟩)) (by rw [Nat.zero_add]; exact hx)⟩
theorem TR_0 {μ : va_M} {t : Nat} {w : Rw} {y : Nat} {z : Int} (h : TR μ t w) : TR (uz μ 0 y z) t w :=
  TR_fr (P := fun x _ => x = 0) h (fr_uz fr_rfl rfl) (fun x => ⟨fun h9 => by have h8 : 507 + t = 0 := h9; omega, fun h9 => by have h8 : 578 + t = 0 := h9; omega, fun h9 => by have h8 : 649 + t = 0 := h9; omega⟩) (fun h9 => by have h8 : 719 = 0 := h9; omega)
def TC (n x y : Nat) : Prop := (561 + n ≤ x ∧ x < 577) ∨ (632 + n ≤ x ∧ x < 648) ∨ (703 + n ≤ x ∧ x < 719) ∨ (x = 719 ∧ 54 + n ≤ y ∧ y < 70) ∨ P8 x y ∨ x = 723 ∨ x = 752 ∨ (x = 0 ∧ y = 38)
theorem TC_up {n x y : Nat} (h : TC (n + 1) x y) : TC n x y := by
  unfold TC at h ⊢
  rcases h with h | h | h | h | h | h | h | h
  · exact Or.inl ⟨by omega, h.2⟩
  · exact Or.inr (Or.inl ⟨by omega, h.2⟩)
  · exact Or.inr (Or.inr (Or.inl ⟨by omega, h.2⟩))
  · exact Or.inr (Or.inr (Or.inr (Or.inl ⟨h.1, by omega, h.2.2⟩)))
  · exact Or.inr (Or.inr (Or.inr (Or.inr (Or.inl h))))
  · exact Or.inr (Or.inr (Or.inr (Or.inr (Or.inr (Or.inl h)))))
  · exact Or.inr (Or.inr (Or.inr (Or.inr (Or.inr (Or.inr (Or.inl h))))))
  · exact Or.inr (Or.inr (Or.inr (Or.inr (Or.inr (Or.inr (Or.inr h))))))
theorem TC_PG {n t m x y : Nat} (ht : t = 54 + n) (h16 : n < 16) (h : PG t m x y) : TC n x y := by unfold PG at h; unfold TC; omega
theorem TC_FQ {n t x y : Nat} (ht : t = 54 + n) (h16 : n < 16) (h : FQ t x y) : TC n x y := by unfold FQ FP P8 PT at h; unfold TC P8 PT; omega
theorem TC_0 {n x y : Nat} (h : x < 557) (h0 : 1 ≤ x) : ¬ TC n x y := by unfold TC P8 PT; omega
theorem rO_bl {w : Rw} {m : Nat} (hm : m ≤ rI w) (h : rO w m < rN w) : m < rI w := by
  by_cases h9 : m = rI w
  · rw [h9, (rO_end w).1] at h; omega
  · omega
set_option maxHeartbeats 40000000 in
set_option maxRecDepth 100000 in
theorem LX10_tidies_93 {p : Program} {l : Launch} {e : Env} {R : Room} {s : State} {m : MethodId} {args : Array Value} {below : List Frame} {meth : Method} {c : Code} {cells slots : Nat} {Q : State → Prop} {dC : Nat → ClassId} {dI : Nat → Nat → Nat} {h0 : Nat} {cI cZ cII cIII : ClassId} {d9 : Nat} (hx : p.tables.exec = Jvm.exec) (hb : c.code = cX10_tidies) (hml : c.maxLocals = 9) (hown : s.vm.findClass RX10 = some m.cls) (hts : ∀ w ∈ wsG, w.before args s = true) (hK : va_K (dC, dI) vwCl (mT cI cZ cII cIII) s) (hRf : d9 + 30 + 1 ≤ R.frames) (hRl : 8 + (9 + 11) + (40 * d9 + 950) ≤ R.locals) (hRc : cells ≤ R.cells) (hRs : slots ≤ R.slots) (hrec : ∀ (sz : Nat) (μ : va_M) (a1 : Int) (a2 : Int) (n : Int) (w : Rw), (0 ≤ n ∧ n + rH w ≤ 16 ∧ n < 16) → (0 ≤ a1 ∧ a2 = a1 + rN w ∧ a2 ≤ 900) → (RA μ 0 w a1.toNat) → (OKr w) → (rH w < d9) → Met l yX10_tidies (Cond.code yX10_tidies cX10_tidies 9 none :: wsG) ({ frames := d9 + 30, cells := 0, slots := 0, locals := 40 * d9 + 950 } : Room) (va_Pc [.ref h0, .int (iZ (0)), .int (iZ (a1)), .int (iZ (a2)), .int (iZ (n))] (fun U => U.heap.size = sz ∧ va_P (dC, dI) vwCl (fw (mE cI cZ cII cIII h0) h0 6325 μ) U.heap ∧ va_K (dC, dI) vwCl (mT cI cZ cII cIII) U)) (va_Qv (fun (u : va_M) => (∃ w2 : Rw, TR u (54 + n).toNat w2 ∧ TDr w w2) ∧ fr (TC n.toNat) μ u ∧ μ 0 38 ≤ u 0 38 ∧ u 0 38 ≤ μ 0 38 + rN w) (fun u t => va_P (dC, dI) vwCl (fw (mE cI cZ cII cIII h0) h0 6325 u) t.heap ∧ va_K (dC, dI) vwCl (mT cI cZ cII cIII) t) (fA h0 6325 sz)) 0 0 (fA h0 6325 sz)) (μ0 : va_M) (a1 : Int) (a2 : Int) (n : Int) (i : Int) (y1 : Int) (w2 : Rw) (P0 : Nat) (hn : 0 ≤ n ∧ n < 15) (hT2 : TR μ0 ((54 + n) + 1).toNat w2) (hO2 : OKr w2) (hcap : P0 + rN w2 ≤ 900) (hexit139 : ∀ (k : Int) (jj : Nat) (μ : va_M) (H : Heap) (locs : List Loc) (ls : Array Slot), (fr (PG (54 + n).toNat P0) μ0 μ) → (μ 719 (54 + n).toNat = P0 + rN w2) → (RA μ (54 + n).toNat w2 P0) → va_P (dC, dI) vwCl (fw (mE cI cZ cII cIII h0) h0 6325 μ) H → va_S (fA h0 6325 s.heap.size) s.heap H locs → lv_has ls 9 [(7, .int (iZ (y1))), (6, .int (iZ (i))), (5, .int (iZ (54 + n))), (4, .int (iZ (n))), (3, .int (iZ (a2))), (2, .int (iZ (a1))), (1, .int (iZ (0))), (0, .ref h0)] → W p l e R s m args below meth c H locs cells slots Q (F0 m 139 ls [])) :
    ∀ (n9 : Nat) (k : Int) (jj : Nat) (μ : va_M) (H : Heap) (locs : List Loc) (ls : Array Slot), (k = rO w2 jj ∧ jj ≤ rI w2) → (fr (PG (54 + n).toNat P0) μ0 μ) → (μ 719 (54 + n).toNat = P0 + rO w2 jj) → (∀ (u8 : va_M) (x : Rw), agr μ u8 (54 + n).toNat P0 (P0 + rO w2 jj) → RA u8 (54 + n).toNat x (P0 + rO w2 jj) → RA u8 (54 + n).toNat (rpre jj w2 x) P0) → rI w2 - jj < n9 → va_P (dC, dI) vwCl (fw (mE cI cZ cII cIII h0) h0 6325 μ) H → va_S (fA h0 6325 s.heap.size) s.heap H locs → lv_has ls 9 [(8, .int (iZ (k))), (7, .int (iZ (y1))), (6, .int (iZ (i))), (5, .int (iZ (54 + n))), (4, .int (iZ (n))), (3, .int (iZ (a2))), (2, .int (iZ (a1))), (1, .int (iZ (0))), (0, .ref h0)] → W p l e R s m args below meth c H locs cells slots Q (F0 m 93 ls []) := by
  intro n9
  induction n9 with
  | zero => intro k jj μ H locs ls hk hfr hN5 hc hm9 hP hS hl; exact absurd hm9 (Nat.not_lt_zero _)
  | succ n9 ih =>
    intro k jj μ H locs ls hk hfr hN5 hc hm9 hP hS hl
    have hb2 := OKr_b hO2
    have hro := rdrop_N jj w2
    have htw : (54 + n).toNat = 54 + n.toNat := by (first | ((try clear hμx); omega) | omega)
    have ht1 : ((54 + n) + 1).toNat = 55 + n.toNat := by (first | ((try clear hμx); omega) | omega)
    refine lv_iload hx hb dX10_tidies_93 (lv_at hl 0 rfl) ?_
    refine lv_aload_n hx hb dX10_tidies_95 rfl (lv_at hl 8 rfl) ?_
    refine fz_get (D := (dC, dI)) (ci := 10) (v := .ref (h0 + 719)) (C := RX10) (T := TX10) (N := 53) hx hb hts inG10 hown hK hP (k := 0) (by decide) (F := mF h0) mE_obj rfl 21 (by decide) (hts _ k1187) (fun _ h9 => h9) rfl dX10_tidies_96 ?_
    refine lv_iload hx hb dX10_tidies_99 (lv_at hl 3 rfl) ?_
    refine lv_iconst (v := iZ 1) hx hb dX10_tidies_101 rfl ?_
    refine lv_iadd hx hb dX10_tidies_102 ?_
    refine lv_topi (fun x9 ex9 => ?_)
    obtain rfl : x9 = iZ ((54 + n) + 1) := ex9.trans (iZ_add _ _)
    refine fz_ld (k := 719) (n := 70) hx hb hK hP 0 (by decide) mE_nodes rfl ⟨by (first | ((try clear hμx); omega) | omega), by (first | ((try clear hμx); omega) | omega)⟩ (by decide) dX10_tidies_103 ?_
    rw [show μ 719 ((54 + n) + 1).toNat = (rN w2 : Int) from (by rw [hfr _ _ (by unfold PG; omega)]; exact hT2.1)]
    refine fz_icmp_ge (tgt := 139) (by constructor <;> (first | ((try clear hμx); omega) | omega)) (by constructor <;> (first | ((try clear hμx); omega) | omega)) hx hb dX10_tidies_104 (by decide) (fun c104_ => ?_) (fun c104_ => ?_)
    · exact hexit139 (k) (jj) μ H locs ls (by exact hfr) (by
                    have hjj : jj = rI w2 := by
                      have h9 := (rO_end w2).1
                      by_cases h8 : jj = rI w2
                      · exact h8
                      · exfalso
                        obtain ⟨z5, k5, v5, l5, r5, e5⟩ := rI_pos (w := rdrop jj w2) (by rw [rdrop_I]; omega)
                        have h7 := rdrop_N jj w2
                        rw [e5, rN_in] at h7
                        omega
                    rw [hjj, (rO_end w2).1] at hN5
                    exact hN5) (by
                    have hjj : jj = rI w2 := by
                      have h9 := (rO_end w2).1
                      by_cases h8 : jj = rI w2
                      · exact h8
                      · exfalso
                        obtain ⟨z5, k5, v5, l5, r5, e5⟩ := rI_pos (w := rdrop jj w2) (by rw [rdrop_I]; omega)
                        have h7 := rdrop_N jj w2
                        rw [e5, rN_in] at h7
                        omega
                    have h6 := hc μ .leaf (fun _ _ _ => ⟨rfl, rfl, rfl⟩) trivial
                    rw [hjj, pre_all] at h6
                    exact h6) hP hS (lv_sub hl [1, 2, 3, 4, 5, 6, 7, 8] rfl)
    · have hjl : jj < rI w2 := rO_bl hk.2 (by (first | ((try clear hμx); omega) | omega))
      have hIx := rdrop_I jj w2
      have hNx := rdrop_N jj w2
      have hHx := rdrop_H jj w2
      have hWx := rdrop_WF jj w2 hO2.1
      have hRx := RA_drop jj w2 _ hT2.2
      obtain ⟨zx, kx, vx, lx, wx, hex⟩ := rI_pos (w := rdrop jj w2) (by (first | ((try clear hμx); omega) | omega))
      rw [hex] at hIx hNx hHx hWx hRx
      rw [rN_in] at hNx; rw [rI_in] at hIx; rw [rH_in] at hHx
      obtain ⟨rx1, rx2, rx3, rx4, _⟩ := hRx
      have hSx := rO_S _ _ _ _ _ _ _ hex
      rw [Nat.zero_add] at rx1 rx2 rx3 rx4
      have hRx : RA μ ((54 + n) + 1).toNat (Std.DTreeMap.Internal.Impl.inner zx kx vx lx .leaf) (rO w2 jj) := ⟨by rw [hfr _ _ (by unfold PG; omega)]; exact rx1, by rw [hfr _ _ (by unfold PG; omega)]; exact rx2, by rw [hfr _ _ (by unfold PG; omega)]; exact rx3, RA_fr rx4 hfr (fun x => by unfold PG; omega), trivial⟩
      refine lv_aload_n hx hb dX10_tidies_107 rfl (lv_at hl 8 rfl) ?_
      refine lv_iload hx hb dX10_tidies_108 (lv_at hl 3 rfl) ?_
      refine lv_iconst (v := iZ 1) hx hb dX10_tidies_110 rfl ?_
      refine lv_iadd hx hb dX10_tidies_111 ?_
      refine lv_topi (fun x9 ex9 => ?_)
      obtain rfl : x9 = iZ ((54 + n) + 1) := ex9.trans (iZ_add _ _)
      refine lv_iload hx hb dX10_tidies_112 (lv_at hl 0 rfl) ?_
      refine lv_iload hx hb dX10_tidies_114 (lv_at hl 3 rfl) ?_
      refine va_callv (va_runV (As := [.int (iZ ((54 + n) + 1)), .int (iZ (k)), .int (iZ (54 + n))]) (rest := []) ⟨hx, hb, hml, hown, hts⟩ (m_copies l dC dI cI cZ cII cIII h0 H.size μ ((54 + n) + 1) (k) (54 + n) (1 + (rN lx : Int)) (by (first | ((try clear hμx); omega) | omega)) (by (first | ((try clear hμx); omega) | omega)) (by (first | ((try clear hμx); omega) | omega)) (by intro _; omega) (by intro _; omega) (by intro _; rw [show k.toNat = rO w2 jj by (first | ((try clear hμx); omega) | omega)]; exact hRx.2.2.1)) (cwV 3 hts (gV_G k1416 k1418 ks_yX10_copies k13 k1419) rfl rfl rfl (by decide +kernel) ⟨by show 2 + 1 ≤ _; omega, by show 8 + (6 + 11) + (38) ≤ _; omega⟩) ⟨fun a U g mk q => by obtain ⟨q0, q1, qP, qK⟩ := q; exact ⟨q0, q1, qP, va_K.moved (u := U) (U := U.calling g mk a) (Vm.Alike.refl U.vm) qK⟩, va_recv hK hP (ci := 10) (q0 := 0) rfl ((fw_get (by decide)).trans (by rw [mE_obj]; rfl)), fun U hU hW => ⟨rfl, by rw [hU], by rw [hU]; exact hP, va_K.moved hW.alike hK⟩⟩ rfl rfl hl.1 rfl (lv_room (Nat.le_of_ble_eq_true rfl)) dX10_tidies_116 ⟨hRc, hRs⟩) hS (fun q _ h => fA_le hS.1 q h) (fA_le hS.1) (fun u9 t9 H1 locs ht9 hvm9 hw9 hB9 hz9 hk9 hS => ?_)
      obtain ⟨hP, -⟩ := hB9
      rw [ht9] at hP
      generalize H1 = H at hP hS ⊢
      obtain ⟨μx, eμx⟩ : ∃ x : va_M, x = u9 := ⟨_, rfl⟩
      rw [← eμx] at hP hw9
      have hμx := hw9; clear hw9
      obtain ⟨c1, c2, c3⟩ := hμx.2 (by (first | ((try clear hμx); omega) | omega))
      rw [show (μ 719 (54 + n).toNat).toNat = P0 + rO w2 jj by (first | ((try clear hμx); omega) | omega)] at c1 c3
      have c3 : cpy μ μx ((54 + n) + 1).toNat (rO w2 jj) (54 + n).toNat (P0 + rO w2 jj) (1 + rN lx) := by have h9 := c3; rw [show k.toNat = rO w2 jj by (first | ((try clear hμx); omega) | omega), show (1 + (rN lx : Int)).toNat = 1 + rN lx by (first | ((try clear hμx); omega) | omega)] at h9; exact h9
      refine lv_iload hx hb dX10_tidies_119 (lv_at hl 0 rfl) ?_
      refine lv_aload_n hx hb dX10_tidies_121 rfl (lv_at hl 8 rfl) ?_
      refine fz_get (D := (dC, dI)) (ci := 10) (v := .ref (h0 + 648)) (C := RX10) (T := TX10) (N := 53) hx hb hts inG10 hown hK hP (k := 0) (by decide) (F := mF h0) mE_obj rfl 20 (by decide) (hts _ k1186) (fun _ h9 => h9) rfl dX10_tidies_122 ?_
      refine lv_iload hx hb dX10_tidies_125 (lv_at hl 3 rfl) ?_
      refine lv_iconst (v := iZ 1) hx hb dX10_tidies_127 rfl ?_
      refine lv_iadd hx hb dX10_tidies_128 ?_
      refine lv_topi (fun x9 ex9 => ?_)
      obtain rfl : x9 = iZ ((54 + n) + 1) := ex9.trans (iZ_add _ _)
      refine fz_ald (k := 648) (n := 70) (k2 := (649 + ((54 + n) + 1).toNat)) hx hb hK hP 2 rfl (by decide) mE_span rfl ⟨by (first | ((try clear hμx); omega) | omega), by (first | ((try clear hμx); omega) | omega)⟩ (by decide) (if_pos (by (first | ((try clear hμx); omega) | omega))) dX10_tidies_129 ?_
      refine lv_iload hx hb dX10_tidies_130 (lv_at hl 0 rfl) ?_
      refine fz_ld (k := (649 + ((54 + n) + 1).toNat)) (n := 900) hx hb hK hP 0 (by (first | ((try clear hμx); omega) | omega)) (mE_spanR (by (first | ((try clear hμx); omega) | omega))) rfl ⟨by (first | ((try clear hμx); omega) | omega), by (first | ((try clear hμx); omega) | omega)⟩ (by decide) dX10_tidies_132 ?_
      rw [show μx (649 + ((54 + n) + 1).toNat) (k).toNat = 1 + (rN lx : Int) from (by rw [c1 _ _ (by unfold PG; omega), show k.toNat = rO w2 jj by (first | ((try clear hμx); omega) | omega)]; exact hRx.2.2.1)]
      refine lv_iadd hx hb dX10_tidies_133 ?_
      refine lv_topi (fun x9 ex9 => ?_)
      obtain rfl : x9 = iZ (k + (1 + (rN lx : Int))) := ex9.trans (iZ_add _ _)
      refine lv_istore (lv' := [(8, .int (iZ (k + (1 + (rN lx : Int))))), (7, .int (iZ (y1))), (6, .int (iZ (i))), (5, .int (iZ (54 + n))), (4, .int (iZ (n))), (3, .int (iZ (a2))), (2, .int (iZ (a1))), (1, .int (iZ (0))), (0, .ref h0)]) hx hb dX10_tidies_134 hl (by decide) rfl (fun ls hl => ?_)
      refine lv_goto (tgt := 93) hx hb dX10_tidies_136 (by decide) ?_
      exact ih (k + (1 + (rN lx : Int))) ((jj + 1)) μx H locs ls (by rw [hSx]; omega) (by exact fr_trans hfr (fr_mono c1 (fun x y h => by unfold PG at h ⊢; omega))) (by rw [hSx]; omega) (by
                    rw [hSx]
                    intro u8 x ha8 hx8
                    rw [rpre_S _ _ _ _ _ _ _ _ hex]
                    refine hc u8 _ (fun y hy1 hy2 => ?_) (cpy_RA hRx c3 (fun y hy1 hy2 => ha8 y (by (first | ((try clear hμx); omega) | omega)) (by (first | ((try clear hμx); omega) | omega))) (by rw [show P0 + rO w2 jj + 1 + rN lx = P0 + (rO w2 jj + 1 + rN lx) by (first | ((try clear hμx); omega) | omega)]; exact hx8))
                    have h7 := ha8 y (by (first | ((try clear hμx); omega) | omega)) (by (first | ((try clear hμx); omega) | omega))
                    rw [h7.1, h7.2.1, h7.2.2]
                    exact ⟨c1 _ _ (by unfold PG; omega), c1 _ _ (by unfold PG; omega), c1 _ _ (by unfold PG; omega)⟩) (by (first | ((try clear hμx); omega) | omega)) hP hS (lv_sub hl [0, 1, 2, 3, 4, 5, 6, 7, 8] rfl)
set_option maxHeartbeats 40000000 in
set_option maxRecDepth 100000 in
theorem LX10_tidies_16 {p : Program} {l : Launch} {e : Env} {R : Room} {s : State} {m : MethodId} {args : Array Value} {below : List Frame} {meth : Method} {c : Code} {cells slots : Nat} {Q : State → Prop} {dC : Nat → ClassId} {dI : Nat → Nat → Nat} {h0 : Nat} {cI cZ cII cIII : ClassId} {d9 : Nat} (hx : p.tables.exec = Jvm.exec) (hb : c.code = cX10_tidies) (hml : c.maxLocals = 9) (hown : s.vm.findClass RX10 = some m.cls) (hts : ∀ w ∈ wsG, w.before args s = true) (hK : va_K (dC, dI) vwCl (mT cI cZ cII cIII) s) (hRf : d9 + 30 + 1 ≤ R.frames) (hRl : 8 + (9 + 11) + (40 * d9 + 950) ≤ R.locals) (hRc : cells ≤ R.cells) (hRs : slots ≤ R.slots) (hrec : ∀ (sz : Nat) (μ : va_M) (a1 : Int) (a2 : Int) (n : Int) (w : Rw), (0 ≤ n ∧ n + rH w ≤ 16 ∧ n < 16) → (0 ≤ a1 ∧ a2 = a1 + rN w ∧ a2 ≤ 900) → (RA μ 0 w a1.toNat) → (OKr w) → (rH w < d9) → Met l yX10_tidies (Cond.code yX10_tidies cX10_tidies 9 none :: wsG) ({ frames := d9 + 30, cells := 0, slots := 0, locals := 40 * d9 + 950 } : Room) (va_Pc [.ref h0, .int (iZ (0)), .int (iZ (a1)), .int (iZ (a2)), .int (iZ (n))] (fun U => U.heap.size = sz ∧ va_P (dC, dI) vwCl (fw (mE cI cZ cII cIII h0) h0 6325 μ) U.heap ∧ va_K (dC, dI) vwCl (mT cI cZ cII cIII) U)) (va_Qv (fun (u : va_M) => (∃ w2 : Rw, TR u (54 + n).toNat w2 ∧ TDr w w2) ∧ fr (TC n.toNat) μ u ∧ μ 0 38 ≤ u 0 38 ∧ u 0 38 ≤ μ 0 38 + rN w) (fun u t => va_P (dC, dI) vwCl (fw (mE cI cZ cII cIII h0) h0 6325 u) t.heap ∧ va_K (dC, dI) vwCl (mT cI cZ cII cIII) t) (fA h0 6325 sz)) 0 0 (fA h0 6325 sz)) (μ0 : va_M) (a1 : Int) (a2 : Int) (n : Int) (w : Rw) (hn : 0 ≤ n ∧ n + rH w ≤ 16 ∧ n < 16) (ha : 0 ≤ a1 ∧ a2 = a1 + rN w ∧ a2 ≤ 900) (hR : RA μ0 0 w a1.toNat) (hO : OKr w) (hd : rH w < d9 + 1) (hexit164 : ∀ (i : Int) (mm : Nat) (pb : Rw) (μ : va_M) (H : Heap) (locs : List Loc) (ls : Array Slot), (RTd w pb) → (TR μ (54 + n).toNat pb) → (fr (TC n.toNat) μ0 μ) → (μ0 0 38 ≤ μ 0 38 ∧ μ 0 38 + rI w ≤ μ0 0 38 + rN w) → va_P (dC, dI) vwCl (fw (mE cI cZ cII cIII h0) h0 6325 μ) H → va_S (fA h0 6325 s.heap.size) s.heap H locs → lv_has ls 9 [(5, .int (iZ (54 + n))), (4, .int (iZ (n))), (3, .int (iZ (a2))), (2, .int (iZ (a1))), (1, .int (iZ (0))), (0, .ref h0)] → W p l e R s m args below meth c H locs cells slots Q (F0 m 164 ls [])) :
    ∀ (n9 : Nat) (i : Int) (mm : Nat) (pb : Rw) (μ : va_M) (H : Heap) (locs : List Loc) (ls : Array Slot), (i = a1 + rO w mm ∧ mm ≤ rI w) → (RTd (rpre mm w .leaf) pb) → (TR μ (54 + n).toNat pb) → (fr (TC n.toNat) μ0 μ) → (μ0 0 38 ≤ μ 0 38 ∧ μ 0 38 + mm ≤ μ0 0 38 + rO w mm) → rI w - mm < n9 → va_P (dC, dI) vwCl (fw (mE cI cZ cII cIII h0) h0 6325 μ) H → va_S (fA h0 6325 s.heap.size) s.heap H locs → lv_has ls 9 [(6, .int (iZ (i))), (5, .int (iZ (54 + n))), (4, .int (iZ (n))), (3, .int (iZ (a2))), (2, .int (iZ (a1))), (1, .int (iZ (0))), (0, .ref h0)] → W p l e R s m args below meth c H locs cells slots Q (F0 m 16 ls []) := by
  intro n9
  induction n9 with
  | zero => intro i mm pb μ H locs ls hi hp hT hf hz hm9 hP hS hl; exact absurd hm9 (Nat.not_lt_zero _)
  | succ n9 ih =>
    intro i mm pb μ H locs ls hi hp hT hf hz hm9 hP hS hl
    have hbw := OKr_b hO
    have hro := rdrop_N mm w
    have htw : (54 + n).toNat = 54 + n.toNat := by (first | ((try clear hμa); (try clear hμt); (try clear hμx); (try clear hμz); (try clear e5_); omega) | omega)
    have hcell : ∀ x, μ (507 + 0) x = μ0 (507 + 0) x ∧ μ (578 + 0) x = μ0 (578 + 0) x ∧ μ (649 + 0) x = μ0 (649 + 0) x := fun x => ⟨hf _ _ (TC_0 (by (first | ((try clear hμa); (try clear hμt); (try clear hμx); (try clear hμz); (try clear e5_); omega) | omega)) (by (first | ((try clear hμa); (try clear hμt); (try clear hμx); (try clear hμz); (try clear e5_); omega) | omega))), hf _ _ (by unfold TC P8 PT; omega), hf _ _ (by unfold TC P8 PT; omega)⟩
    refine lv_iload hx hb dX10_tidies_16 (lv_at hl 0 rfl) ?_
    refine lv_iload_n hx hb dX10_tidies_18 rfl (lv_at hl 3 rfl) ?_
    refine fz_icmp_ge (tgt := 164) (by constructor <;> (first | ((try clear hμa); (try clear hμt); (try clear hμx); (try clear hμz); (try clear e5_); omega) | omega)) (by constructor <;> (first | ((try clear hμa); (try clear hμt); (try clear hμx); (try clear hμz); (try clear e5_); omega) | omega)) hx hb dX10_tidies_19 (by decide) (fun c19_ => ?_) (fun c19_ => ?_)
    · exact hexit164 (i) (mm) (pb) μ H locs ls (by
                    have hjj : mm = rI w := by
                      by_cases h8 : mm = rI w
                      · exact h8
                      · exfalso
                        obtain ⟨z5, k5, v5, l5, r5, e5⟩ := rI_pos (w := rdrop mm w) (by rw [rdrop_I]; omega)
                        have h7 := rdrop_N mm w
                        rw [e5, rN_in] at h7
                        omega
                    rw [hjj, pre_all] at hp
                    exact hp) (by exact hT) (by exact hf) (by
                    have hjj : mm = rI w := by
                      by_cases h8 : mm = rI w
                      · exact h8
                      · exfalso
                        obtain ⟨z5, k5, v5, l5, r5, e5⟩ := rI_pos (w := rdrop mm w) (by rw [rdrop_I]; omega)
                        have h7 := rdrop_N mm w
                        rw [e5, rN_in] at h7
                        omega
                    rw [hjj, (rO_end w).1] at hz
                    exact hz) hP hS (lv_sub hl [1, 2, 3, 4, 5, 6] rfl)
    · have hmm : mm < rI w := rO_bl hi.2 (by (first | ((try clear hμa); (try clear hμt); (try clear hμx); (try clear hμz); (try clear e5_); omega) | omega))
      have hIx := rdrop_I mm w
      have hNx := rdrop_N mm w
      have hHx := rdrop_H mm w
      have hWx := rdrop_WF mm w hO.1
      have hRx := RA_drop mm w _ hR
      obtain ⟨zx, kx, vx, lx, wx, hex⟩ := rI_pos (w := rdrop mm w) (by (first | ((try clear hμa); (try clear hμt); (try clear hμx); (try clear hμz); (try clear e5_); omega) | omega))
      rw [hex] at hIx hNx hHx hWx hRx
      rw [rN_in] at hNx; rw [rI_in] at hIx; rw [rH_in] at hHx
      obtain ⟨rx1, rx2, rx3, rx4, _⟩ := hRx
      have hSx := rO_S _ _ _ _ _ _ _ hex
      have hia : i.toNat = a1.toNat + rO w mm := by (first | ((try clear hμa); (try clear hμt); (try clear hμx); (try clear hμz); (try clear e5_); omega) | omega)
      have hRx : RA μ 0 (Std.DTreeMap.Internal.Impl.inner zx kx vx lx .leaf) i.toNat := by
        rw [hia]
        exact ⟨by rw [(hcell _).1]; exact rx1, by rw [(hcell _).2.1]; exact rx2, by rw [(hcell _).2.2]; exact rx3, RA_kept rx4 (fun x _ _ => hcell x), trivial⟩
      have hbp := OKr_b (OKr_RT hO hi.2 hp)
      have hk4 := hWx.1
      have hnT : μ 719 (54 + n).toNat = rN pb := hT.1
      refine lv_aload_n hx hb dX10_tidies_22 rfl (lv_at hl 6 rfl) ?_
      refine fz_get (D := (dC, dI)) (ci := 10) (v := .ref (h0 + 506)) (C := RX10) (T := TX10) (N := 53) hx hb hts inG10 hown hK hP (k := 0) (by decide) (F := mF h0) mE_obj rfl 18 (by decide) (hts _ k1184) (fun _ h9 => h9) rfl dX10_tidies_23 ?_
      refine lv_iload_n hx hb dX10_tidies_26 rfl (lv_at hl 5 rfl) ?_
      refine fz_ald (k := 506) (n := 70) (k2 := (507 + 0)) hx hb hK hP 2 rfl (by decide) mE_sort rfl ⟨by (first | ((try clear hμa); (try clear hμt); (try clear hμx); (try clear hμz); (try clear e5_); omega) | omega), by (first | ((try clear hμa); (try clear hμt); (try clear hμx); (try clear hμz); (try clear e5_); omega) | omega)⟩ (by decide) (if_pos (by (first | ((try clear hμa); (try clear hμt); (try clear hμx); (try clear hμz); (try clear e5_); omega) | omega))) dX10_tidies_27 ?_
      refine lv_iload hx hb dX10_tidies_28 (lv_at hl 0 rfl) ?_
      refine fz_ld (k := (507 + 0)) (n := 900) hx hb hK hP 0 (by (first | ((try clear hμa); (try clear hμt); (try clear hμx); (try clear hμz); (try clear e5_); omega) | omega)) (mE_sortR (by (first | ((try clear hμa); (try clear hμt); (try clear hμx); (try clear hμz); (try clear e5_); omega) | omega))) rfl ⟨by (first | ((try clear hμa); (try clear hμt); (try clear hμx); (try clear hμz); (try clear e5_); omega) | omega), by (first | ((try clear hμa); (try clear hμt); (try clear hμx); (try clear hμz); (try clear e5_); omega) | omega)⟩ (by decide) dX10_tidies_30 ?_
      rw [show μ (507 + 0) (i).toNat = (kx : Int) from (by exact hRx.1)]
      refine lv_iconst (v := iZ 3) hx hb dX10_tidies_31 rfl ?_
      refine fz_icmp_ge (tgt := 47) (by constructor <;> (first | ((try clear hμa); (try clear hμt); (try clear hμx); (try clear hμz); (try clear e5_); omega) | omega)) (by decide) hx hb dX10_tidies_32 (by decide) (fun c32_ => ?_) (fun c32_ => ?_)
      · have hlne := hWx.2.2.1 (by (first | ((try clear hμa); (try clear hμt); (try clear hμx); (try clear hμz); (try clear e5_); omega) | omega))
        have hl1 := rH_0 hlne
        refine lv_aload_n hx hb dX10_tidies_47 rfl (lv_at hl 6 rfl) ?_
        refine lv_iload_n hx hb dX10_tidies_48 rfl (lv_at hl 5 rfl) ?_
        refine lv_iload hx hb dX10_tidies_49 (lv_at hl 0 rfl) ?_
        refine lv_iconst (v := iZ 1) hx hb dX10_tidies_51 rfl ?_
        refine lv_iadd hx hb dX10_tidies_52 ?_
        refine lv_topi (fun x9 ex9 => ?_)
        obtain rfl : x9 = iZ (i + 1) := ex9.trans (iZ_add _ _)
        refine lv_iload hx hb dX10_tidies_53 (lv_at hl 0 rfl) ?_
        refine lv_aload_n hx hb dX10_tidies_55 rfl (lv_at hl 6 rfl) ?_
        refine fz_get (D := (dC, dI)) (ci := 10) (v := .ref (h0 + 648)) (C := RX10) (T := TX10) (N := 53) hx hb hts inG10 hown hK hP (k := 0) (by decide) (F := mF h0) mE_obj rfl 20 (by decide) (hts _ k1186) (fun _ h9 => h9) rfl dX10_tidies_56 ?_
        refine lv_iload_n hx hb dX10_tidies_59 rfl (lv_at hl 5 rfl) ?_
        refine fz_ald (k := 648) (n := 70) (k2 := (649 + 0)) hx hb hK hP 2 rfl (by decide) mE_span rfl ⟨by (first | ((try clear hμa); (try clear hμt); (try clear hμx); (try clear hμz); (try clear e5_); omega) | omega), by (first | ((try clear hμa); (try clear hμt); (try clear hμx); (try clear hμz); (try clear e5_); omega) | omega)⟩ (by decide) (if_pos (by (first | ((try clear hμa); (try clear hμt); (try clear hμx); (try clear hμz); (try clear e5_); omega) | omega))) dX10_tidies_60 ?_
        refine lv_iload hx hb dX10_tidies_61 (lv_at hl 0 rfl) ?_
        refine fz_ld (k := (649 + 0)) (n := 900) hx hb hK hP 0 (by (first | ((try clear hμa); (try clear hμt); (try clear hμx); (try clear hμz); (try clear e5_); omega) | omega)) (mE_spanR (by (first | ((try clear hμa); (try clear hμt); (try clear hμx); (try clear hμz); (try clear e5_); omega) | omega))) rfl ⟨by (first | ((try clear hμa); (try clear hμt); (try clear hμx); (try clear hμz); (try clear e5_); omega) | omega), by (first | ((try clear hμa); (try clear hμt); (try clear hμx); (try clear hμz); (try clear e5_); omega) | omega)⟩ (by decide) dX10_tidies_63 ?_
        rw [show μ (649 + 0) (i).toNat = 1 + (rN lx : Int) from (by exact hRx.2.2.1)]
        refine lv_iadd hx hb dX10_tidies_64 ?_
        refine lv_topi (fun x9 ex9 => ?_)
        obtain rfl : x9 = iZ (i + (1 + (rN lx : Int))) := ex9.trans (iZ_add _ _)
        refine lv_iload hx hb dX10_tidies_65 (lv_at hl 2 rfl) ?_
        refine lv_iconst (v := iZ 1) hx hb dX10_tidies_67 rfl ?_
        refine lv_iadd hx hb dX10_tidies_68 ?_
        refine lv_topi (fun x9 ex9 => ?_)
        obtain rfl : x9 = iZ (n + 1) := ex9.trans (iZ_add _ _)
        refine va_callv (va_runV (As := [.int (iZ (0)), .int (iZ (i + 1)), .int (iZ (i + (1 + (rN lx : Int)))), .int (iZ (n + 1))]) (rest := []) ⟨hx, hb, hml, hown, hts⟩ (hrec H.size μ (i + 1) (i + (1 + (rN lx : Int))) (n + 1) (lx) (by (first | ((try clear hμa); (try clear hμt); (try clear hμx); (try clear hμz); (try clear e5_); omega) | omega)) (by (first | ((try clear hμa); (try clear hμt); (try clear hμx); (try clear hμz); (try clear e5_); omega) | omega)) (by rw [show (i + 1).toNat = i.toNat + 1 by (first | ((try clear hμa); (try clear hμt); (try clear hμx); (try clear hμz); (try clear e5_); omega) | omega)]; exact hRx.2.2.2.1) (by exact (OKr_in (z := zx) (v := vx) (r := wx) (by rw [← hex]; exact OKr_drop hO mm)).2 (by (first | ((try clear hμa); (try clear hμt); (try clear hμx); (try clear hμz); (try clear e5_); omega) | omega))) (by (first | ((try clear hμa); (try clear hμt); (try clear hμx); (try clear hμz); (try clear e5_); omega) | omega))) (cwV 4 hts (gV_G k1444 k1446 ks_yX10_tidies k13 k1447) rfl rfl rfl (by decide +kernel) ⟨by show d9 + 30 + 1 ≤ _; omega, by show 8 + (9 + 11) + (40 * d9 + 950) ≤ _; omega⟩) ⟨fun a U g mk q => by obtain ⟨q0, q1, qP, qK⟩ := q; exact ⟨q0, q1, qP, va_K.moved (u := U) (U := U.calling g mk a) (Vm.Alike.refl U.vm) qK⟩, va_recv hK hP (ci := 10) (q0 := 0) rfl ((fw_get (by decide)).trans (by rw [mE_obj]; rfl)), fun U hU hW => ⟨rfl, by rw [hU], by rw [hU]; exact hP, va_K.moved hW.alike hK⟩⟩ rfl rfl hl.1 rfl (lv_room (Nat.le_of_ble_eq_true rfl)) dX10_tidies_69 ⟨hRc, hRs⟩) hS (fun q _ h => fA_le hS.1 q h) (fA_le hS.1) (fun u9 t9 H1 locs ht9 hvm9 hw9 hB9 hz9 hk9 hS => ?_)
        obtain ⟨hP, -⟩ := hB9
        rw [ht9] at hP
        generalize H1 = H at hP hS ⊢
        obtain ⟨μt, eμt⟩ : ∃ x : va_M, x = u9 := ⟨_, rfl⟩
        rw [← eμt] at hP hw9
        have hμt := hw9; clear hw9
        obtain ⟨⟨w2, y1_, y2_⟩, y3_, y4_, y5_⟩ := hμt
        have hOl : OKr lx := (OKr_in (z := zx) (v := vx) (r := wx) (by rw [← hex]; exact OKr_drop hO mm)).2 (by (first | ((try clear hμa); (try clear hμt); (try clear hμx); (try clear hμz); (try clear e5_); omega) | omega))
        have hOw2 : OKr w2 := OKr_TD y2_ hOl
        have hb2 := OKr_b hOw2
        have en1 : (n + 1).toNat = n.toNat + 1 := by (first | ((try clear hμa); (try clear hμt); (try clear hμx); (try clear hμz); (try clear e5_); omega) | omega)
        have et1 : (54 + (n + 1)).toNat = ((54 + n) + 1).toNat := by (first | ((try clear hμa); (try clear hμt); (try clear hμx); (try clear hμz); (try clear e5_); omega) | omega)
        have et2 : ((54 + n) + 1).toNat = 55 + n.toNat := by (first | ((try clear hμa); (try clear hμt); (try clear hμx); (try clear hμz); (try clear e5_); omega) | omega)
        rw [en1] at y3_
        rw [et1] at y1_
        have hmore := RTd_more (z2 := 0) hp hex (Or.inr ⟨by (first | ((try clear hμa); (try clear hμt); (try clear hμx); (try clear hμz); (try clear e5_); omega) | omega), rfl, y2_⟩)
        have hbm := OKr_b (OKr_RT hO (m := mm + 1) (by (first | ((try clear hμa); (try clear hμt); (try clear hμx); (try clear hμz); (try clear e5_); omega) | omega)) hmore)
        rw [rapp_N] at hbm
        have hN1 : rN (Std.DTreeMap.Internal.Impl.inner 0 kx (-1) w2 .leaf : Rw) = 1 + rN w2 := by rw [rN_in]; rfl
        have hTt : TR μt (54 + n).toNat pb := TR_fr hT y3_ (fun x => by unfold TC P8 PT; omega) (by unfold TC P8 PT; omega)
        have hnt : μt 719 (54 + n).toNat = rN pb := hTt.1
        have hkt : μt (507 + 0) i.toNat = kx := by rw [y3_ _ _ (TC_0 (by (first | ((try clear hμa); (try clear hμt); (try clear hμx); (try clear hμz); (try clear e5_); omega) | omega)) (by (first | ((try clear hμa); (try clear hμt); (try clear hμx); (try clear hμz); (try clear e5_); omega) | omega)))]; exact hRx.1
        have hst : μt (649 + 0) i.toNat = 1 + (rN lx : Int) := by rw [y3_ _ _ (by unfold TC P8 PT; omega)]; exact hRx.2.2.1
        refine lv_aload_n hx hb dX10_tidies_72 rfl (lv_at hl 6 rfl) ?_
        refine lv_iload hx hb dX10_tidies_73 (lv_at hl 1 rfl) ?_
        refine lv_aload_n hx hb dX10_tidies_75 rfl (lv_at hl 6 rfl) ?_
        refine fz_get (D := (dC, dI)) (ci := 10) (v := .ref (h0 + 506)) (C := RX10) (T := TX10) (N := 53) hx hb hts inG10 hown hK hP (k := 0) (by decide) (F := mF h0) mE_obj rfl 18 (by decide) (hts _ k1184) (fun _ h9 => h9) rfl dX10_tidies_76 ?_
        refine lv_iload_n hx hb dX10_tidies_79 rfl (lv_at hl 5 rfl) ?_
        refine fz_ald (k := 506) (n := 70) (k2 := (507 + 0)) hx hb hK hP 2 rfl (by decide) mE_sort rfl ⟨by (first | ((try clear hμa); (try clear hμt); (try clear hμx); (try clear hμz); (try clear e5_); omega) | omega), by (first | ((try clear hμa); (try clear hμt); (try clear hμx); (try clear hμz); (try clear e5_); omega) | omega)⟩ (by decide) (if_pos (by (first | ((try clear hμa); (try clear hμt); (try clear hμx); (try clear hμz); (try clear e5_); omega) | omega))) dX10_tidies_80 ?_
        refine lv_iload hx hb dX10_tidies_81 (lv_at hl 0 rfl) ?_
        refine fz_ld (k := (507 + 0)) (n := 900) hx hb hK hP 0 (by (first | ((try clear hμa); (try clear hμt); (try clear hμx); (try clear hμz); (try clear e5_); omega) | omega)) (mE_sortR (by (first | ((try clear hμa); (try clear hμt); (try clear hμx); (try clear hμz); (try clear e5_); omega) | omega))) rfl ⟨by (first | ((try clear hμa); (try clear hμt); (try clear hμx); (try clear hμz); (try clear e5_); omega) | omega), by (first | ((try clear hμa); (try clear hμt); (try clear hμx); (try clear hμz); (try clear e5_); omega) | omega)⟩ (by decide) dX10_tidies_83 ?_
        rw [show μt (507 + 0) (i).toNat = (kx : Int) from (by exact hkt)]
        refine lv_iconst (v := iZ (-1)) hx hb dX10_tidies_84 rfl ?_
        refine va_calli (va_runV (As := [.int (iZ (54 + n)), .int (iZ ((kx : Int))), .int (iZ ((-1)))]) (rest := []) ⟨hx, hb, hml, hown, hts⟩ (m_adds l dC dI cI cZ cII cIII h0 H.size μt (54 + n) ((kx : Int)) ((-1)) (by (first | ((try clear hμa); (try clear hμt); (try clear hμx); (try clear hμz); (try clear e5_); omega) | omega)) (by intro _; omega)) (cwV 3 hts (gV_G k1381 k1383 ks_yX10_adds k13 k1384) rfl rfl rfl (by decide +kernel) ⟨by show 1 + 1 ≤ _; omega, by show 8 + (5 + 11) + (14) ≤ _; omega⟩) ⟨fun a U g mk q => by obtain ⟨q0, q1, qP, qK⟩ := q; exact ⟨q0, q1, qP, va_K.moved (u := U) (U := U.calling g mk a) (Vm.Alike.refl U.vm) qK⟩, va_recv hK hP (ci := 10) (q0 := 0) rfl ((fw_get (by decide)).trans (by rw [mE_obj]; rfl)), fun U hU hW => ⟨rfl, by rw [hU], by rw [hU]; exact hP, va_K.moved hW.alike hK⟩⟩ rfl rfl hl.1 rfl (lv_room (Nat.le_of_ble_eq_true rfl)) dX10_tidies_85 ⟨hRc, hRs⟩) hS (fun q _ h => fA_le hS.1 q h) (fA_le hS.1) (fun r9 u9 t9 H1 locs ht9 hvm9 hw9 hB9 hz9 hk9 hS => ?_)
        obtain ⟨μa, ya⟩ := u9
        obtain ⟨hP, -⟩ := hB9
        rw [ht9] at hP
        generalize H1 = H at hP hS ⊢
        obtain ⟨e9, hw9⟩ := hw9
        have e9 : r9 = iZ ya := e9
        subst e9
        simp only at hP hw9
        have hμa := hw9; clear hw9
        obtain ⟨e1_, e2_⟩ := hμa.2 (by (first | ((try clear hμa); (try clear hμt); (try clear hμx); (try clear hμz); (try clear e5_); omega) | omega))
        rw [show (μt 719 (54 + n).toNat).toNat = rN pb by (first | ((try clear hμa); (try clear hμt); (try clear hμx); (try clear hμz); (try clear e5_); omega) | omega)] at e1_
        have fa : fr (PG (54 + n).toNat (rN pb)) μt μa := by rw [e1_]; exact fr_uz (fr_uz (fr_uz (fr_uz fr_rfl (by unfold PG; omega)) (by unfold PG; omega)) (by unfold PG; omega)) (by unfold PG; omega)
        have hna : μa 719 (54 + n).toNat = rN pb + 1 := by rw [e1_, uz_s]; omega
        refine lv_istore (lv' := [(7, .int (iZ (ya))), (6, .int (iZ (i))), (5, .int (iZ (54 + n))), (4, .int (iZ (n))), (3, .int (iZ (a2))), (2, .int (iZ (a1))), (1, .int (iZ (0))), (0, .ref h0)]) hx hb dX10_tidies_88 hl (by decide) rfl (fun ls hl => ?_)
        refine lv_iconst (v := iZ 0) hx hb dX10_tidies_90 rfl ?_
        refine lv_istore (lv' := [(8, .int (iZ (0))), (7, .int (iZ (ya))), (6, .int (iZ (i))), (5, .int (iZ (54 + n))), (4, .int (iZ (n))), (3, .int (iZ (a2))), (2, .int (iZ (a1))), (1, .int (iZ (0))), (0, .ref h0)]) hx hb dX10_tidies_91 hl (by decide) rfl (fun ls hl => ?_)
        refine LX10_tidies_93 hx hb hml hown hts hK hRf hRl hRc hRs hrec (μa) (a1) (a2) (n) (i) (ya) (w2) (rN pb + 1) (by (first | ((try clear hμa); (try clear hμt); (try clear hμx); (try clear hμz); (try clear e5_); omega) | omega)) (by exact TR_fr y1_ fa (fun x => by unfold PG; omega) (by unfold PG; omega)) (by exact hOw2) (by (first | ((try clear hμa); (try clear hμt); (try clear hμx); (try clear hμz); (try clear e5_); omega) | omega)) ?_ _ (0) (0) μa H locs ls (by
                        have h9 : rO w2 0 = 0 := by cases w2 <;> rfl
                        rw [h9]; omega) (by exact fr_rfl) (by
                        have h9 : rO w2 0 = 0 := by cases w2 <;> rfl
                        rw [h9]; omega) (by
                        have h9 : rO w2 0 = 0 := by cases w2 <;> rfl
                        rw [h9]
                        intro u8 x _ hx8
                        exact hx8) (Nat.lt_succ_self _) hP hS (lv_sub hl [0, 1, 2, 3, 4, 5, 6, 7, 8] rfl)
        · intro k_1 jj_1 μ1_ H locs ls q1_1 q2_1 q3_1 hP hS hl
          have hl : lv_has ls 9 [(7, .int (iZ (ya))), (6, .int (iZ (i))), (5, .int (iZ (54 + n))), (4, .int (iZ (n))), (3, .int (iZ (a2))), (2, .int (iZ (a1))), (1, .int (iZ (0))), (0, .ref h0)] := hl
          have p1_ := q1_1
          have p2_ := q2_1
          have p3_ := q3_1
          refine lv_aload_n hx hb dX10_tidies_139 rfl (lv_at hl 7 rfl) ?_
          refine lv_iload hx hb dX10_tidies_140 (lv_at hl 2 rfl) ?_
          refine lv_iload hx hb dX10_tidies_142 (lv_at hl 0 rfl) ?_
          refine va_callv (va_runV (As := [.int (iZ (54 + n)), .int (iZ (ya))]) (rest := []) ⟨hx, hb, hml, hown, hts⟩ (m_closes l dC dI cI cZ cII cIII h0 H.size μ1_ (54 + n) (ya) (by (first | ((try clear hμa); (try clear hμt); (try clear hμx); (try clear hμz); (try clear e5_); omega) | omega)) (by intro _; omega)) (cwV 2 hts (gV_G k1424 k1426 ks_yX10_closes k13 k1427) rfl rfl rfl (by decide +kernel) ⟨by show 1 + 1 ≤ _; omega, by show 8 + (3 + 11) + (14) ≤ _; omega⟩) ⟨fun a U g mk q => by obtain ⟨q0, q1, qP, qK⟩ := q; exact ⟨q0, q1, qP, va_K.moved (u := U) (U := U.calling g mk a) (Vm.Alike.refl U.vm) qK⟩, va_recv hK hP (ci := 10) (q0 := 0) rfl ((fw_get (by decide)).trans (by rw [mE_obj]; rfl)), fun U hU hW => ⟨rfl, by rw [hU], by rw [hU]; exact hP, va_K.moved hW.alike hK⟩⟩ rfl rfl hl.1 rfl (lv_room (Nat.le_of_ble_eq_true rfl)) dX10_tidies_144 ⟨hRc, hRs⟩) hS (fun q _ h => fA_le hS.1 q h) (fA_le hS.1) (fun u9 t9 H1 locs ht9 hvm9 hw9 hB9 hz9 hk9 hS => ?_)
          obtain ⟨hP, -⟩ := hB9
          rw [ht9] at hP
          generalize H1 = H at hP hS ⊢
          obtain ⟨μz, eμz⟩ : ∃ x : va_M, x = u9 := ⟨_, rfl⟩
          rw [← eμz] at hP hw9
          have hμz := hw9; clear hw9
          have e5_ := hμz.2 (by (first | ((try clear hμa); (try clear hμt); (try clear hμx); (try clear hμz); (try clear e5_); omega) | omega))
          rw [show ya.toNat = rN pb by (first | ((try clear hμa); (try clear hμt); (try clear hμx); (try clear hμz); (try clear e5_); omega) | omega)] at e5_
          have c1 : fr (PG (54 + n).toNat (rN pb)) μt μz := by rw [e5_]; exact fr_uz (fr_trans fa (fr_mono p1_ (fun x y h => by unfold PG at h ⊢; omega))) (by unfold PG; omega)
          have hTm : TR μz (54 + n).toNat (rapp pb (Std.DTreeMap.Internal.Impl.inner 0 kx (-1) w2 .leaf)) := TR_more hTt c1 (by rw [hN1, e5_, uz_n (by (first | ((try clear hμa); (try clear hμt); (try clear hμx); (try clear hμz); (try clear e5_); omega) | omega))]; omega) ⟨by rw [e5_, uz_n (by (first | ((try clear hμa); (try clear hμt); (try clear hμx); (try clear hμz); (try clear e5_); omega) | omega)), p1_ _ _ (by unfold PG; omega), e1_, uz_n (by (first | ((try clear hμa); (try clear hμt); (try clear hμx); (try clear hμz); (try clear e5_); omega) | omega)), uz_n (by (first | ((try clear hμa); (try clear hμt); (try clear hμx); (try clear hμz); (try clear e5_); omega) | omega)), uz_n (by (first | ((try clear hμa); (try clear hμt); (try clear hμx); (try clear hμz); (try clear e5_); omega) | omega)), uz_s], by rw [e5_, uz_n (by (first | ((try clear hμa); (try clear hμt); (try clear hμx); (try clear hμz); (try clear e5_); omega) | omega)), p1_ _ _ (by unfold PG; omega), e1_, uz_n (by (first | ((try clear hμa); (try clear hμt); (try clear hμx); (try clear hμz); (try clear e5_); omega) | omega)), uz_n (by (first | ((try clear hμa); (try clear hμt); (try clear hμx); (try clear hμz); (try clear e5_); omega) | omega)), uz_s], by rw [e5_, uz_s]; omega, by
              rw [e5_]
              exact RA_kept p3_ (fun y hy1 hy2 => ⟨uz_n (by (first | ((try clear hμa); (try clear hμt); (try clear hμx); (try clear hμz); (try clear e5_); omega) | omega)), uz_n (by (first | ((try clear hμa); (try clear hμt); (try clear hμx); (try clear hμz); (try clear e5_); omega) | omega)), uz_n (by (first | ((try clear hμa); (try clear hμt); (try clear hμx); (try clear hμz); (try clear e5_); omega) | omega))⟩), trivial⟩ (by (first | ((try clear hμa); (try clear hμt); (try clear hμx); (try clear hμz); (try clear e5_); omega) | omega))
          have hfm : fr (TC n.toNat) μ0 μz := fr_trans (fr_trans hf (fr_mono y3_ (fun x y h => TC_up h))) (fr_mono c1 (fun x y h => TC_PG htw (by (first | ((try clear hμa); (try clear hμt); (try clear hμx); (try clear hμz); (try clear e5_); omega) | omega)) h))
          have hzm : μz 0 38 = μt 0 38 := c1 _ _ (by unfold PG; omega)
          have hspan : μz (649 + 0) i.toNat = 1 + (rN lx : Int) := by rw [c1 _ _ (by unfold PG; omega)]; exact hst
          refine lv_iload hx hb dX10_tidies_147 (lv_at hl 1 rfl) ?_
          refine lv_aload_n hx hb dX10_tidies_149 rfl (lv_at hl 7 rfl) ?_
          refine fz_get (D := (dC, dI)) (ci := 10) (v := .ref (h0 + 648)) (C := RX10) (T := TX10) (N := 53) hx hb hts inG10 hown hK hP (k := 0) (by decide) (F := mF h0) mE_obj rfl 20 (by decide) (hts _ k1186) (fun _ h9 => h9) rfl dX10_tidies_150 ?_
          refine lv_iload_n hx hb dX10_tidies_153 rfl (lv_at hl 6 rfl) ?_
          refine fz_ald (k := 648) (n := 70) (k2 := (649 + 0)) hx hb hK hP 2 rfl (by decide) mE_span rfl ⟨by (first | ((try clear hμa); (try clear hμt); (try clear hμx); (try clear hμz); (try clear e5_); omega) | omega), by (first | ((try clear hμa); (try clear hμt); (try clear hμx); (try clear hμz); (try clear e5_); omega) | omega)⟩ (by decide) (if_pos (by (first | ((try clear hμa); (try clear hμt); (try clear hμx); (try clear hμz); (try clear e5_); omega) | omega))) dX10_tidies_154 ?_
          refine lv_iload hx hb dX10_tidies_155 (lv_at hl 1 rfl) ?_
          refine fz_ld (k := (649 + 0)) (n := 900) hx hb hK hP 0 (by (first | ((try clear hμa); (try clear hμt); (try clear hμx); (try clear hμz); (try clear e5_); omega) | omega)) (mE_spanR (by (first | ((try clear hμa); (try clear hμt); (try clear hμx); (try clear hμz); (try clear e5_); omega) | omega))) rfl ⟨by (first | ((try clear hμa); (try clear hμt); (try clear hμx); (try clear hμz); (try clear e5_); omega) | omega), by (first | ((try clear hμa); (try clear hμt); (try clear hμx); (try clear hμz); (try clear e5_); omega) | omega)⟩ (by decide) dX10_tidies_157 ?_
          rw [show μz (649 + 0) (i).toNat = 1 + (rN lx : Int) from (by exact hspan)]
          refine lv_iadd hx hb dX10_tidies_158 ?_
          refine lv_topi (fun x9 ex9 => ?_)
          obtain rfl : x9 = iZ (i + (1 + (rN lx : Int))) := ex9.trans (iZ_add _ _)
          refine lv_istore (lv' := [(6, .int (iZ (i + (1 + (rN lx : Int))))), (7, .int (iZ (ya))), (5, .int (iZ (54 + n))), (4, .int (iZ (n))), (3, .int (iZ (a2))), (2, .int (iZ (a1))), (1, .int (iZ (0))), (0, .ref h0)]) hx hb dX10_tidies_159 hl (by decide) rfl (fun ls hl => ?_)
          refine lv_goto (tgt := 16) hx hb dX10_tidies_161 (by decide) ?_
          exact ih (i + (1 + (rN lx : Int))) ((mm + 1)) ((rapp pb (Std.DTreeMap.Internal.Impl.inner 0 kx (-1) w2 .leaf))) μz H locs ls (by rw [hSx]; omega) (by exact hmore) (by exact hTm) (by exact hfm) (by rw [hzm, hSx]; omega) (by (first | ((try clear hμa); (try clear hμt); (try clear hμx); (try clear hμz); (try clear e5_); omega) | omega)) hP hS (lv_sub hl [0, 2, 3, 4, 5, 6, 7] rfl)
      · have hlx := hWx.2.1 (by (first | ((try clear hμa); (try clear hμt); (try clear hμx); (try clear hμz); (try clear e5_); omega) | omega))
        have hmore := RTd_more (z2 := 0) hp hex (Or.inl ⟨by (first | ((try clear hμa); (try clear hμt); (try clear hμx); (try clear hμz); (try clear e5_); omega) | omega), rfl, rfl⟩)
        have hbm := OKr_b (OKr_RT hO (m := mm + 1) (by (first | ((try clear hμa); (try clear hμt); (try clear hμx); (try clear hμz); (try clear e5_); omega) | omega)) hmore)
        rw [rapp_N] at hbm
        have hN1 : rN (Std.DTreeMap.Internal.Impl.inner 0 kx vx lx .leaf : Rw) = 1 + rN lx := by rw [rN_in]; rfl
        have hl0 : rN lx = 0 := by rw [hlx]; rfl
        refine lv_aload_n hx hb dX10_tidies_35 rfl (lv_at hl 6 rfl) ?_
        refine lv_iload_n hx hb dX10_tidies_36 rfl (lv_at hl 5 rfl) ?_
        refine lv_iload hx hb dX10_tidies_37 (lv_at hl 0 rfl) ?_
        refine lv_iload hx hb dX10_tidies_39 (lv_at hl 1 rfl) ?_
        refine va_callv (va_runV (As := [.int (iZ (0)), .int (iZ (i)), .int (iZ (54 + n))]) (rest := []) ⟨hx, hb, hml, hown, hts⟩ (m_copies l dC dI cI cZ cII cIII h0 H.size μ (0) (i) (54 + n) (1) (by decide) (by (first | ((try clear hμa); (try clear hμt); (try clear hμx); (try clear hμz); (try clear e5_); omega) | omega)) (by (first | ((try clear hμa); (try clear hμt); (try clear hμx); (try clear hμz); (try clear e5_); omega) | omega)) (by intro _; omega) (by intro _; omega) (by intro _; show μ (649 + 0) i.toNat = 1; rw [hRx.2.2.1]; omega)) (cwV 3 hts (gV_G k1416 k1418 ks_yX10_copies k13 k1419) rfl rfl rfl (by decide +kernel) ⟨by show 2 + 1 ≤ _; omega, by show 8 + (6 + 11) + (38) ≤ _; omega⟩) ⟨fun a U g mk q => by obtain ⟨q0, q1, qP, qK⟩ := q; exact ⟨q0, q1, qP, va_K.moved (u := U) (U := U.calling g mk a) (Vm.Alike.refl U.vm) qK⟩, va_recv hK hP (ci := 10) (q0 := 0) rfl ((fw_get (by decide)).trans (by rw [mE_obj]; rfl)), fun U hU hW => ⟨rfl, by rw [hU], by rw [hU]; exact hP, va_K.moved hW.alike hK⟩⟩ rfl rfl hl.1 rfl (lv_room (Nat.le_of_ble_eq_true rfl)) dX10_tidies_41 ⟨hRc, hRs⟩) hS (fun q _ h => fA_le hS.1 q h) (fA_le hS.1) (fun u9 t9 H1 locs ht9 hvm9 hw9 hB9 hz9 hk9 hS => ?_)
        obtain ⟨hP, -⟩ := hB9
        rw [ht9] at hP
        generalize H1 = H at hP hS ⊢
        obtain ⟨μx, eμx⟩ : ∃ x : va_M, x = u9 := ⟨_, rfl⟩
        rw [← eμx] at hP hw9
        have hμx := hw9; clear hw9
        obtain ⟨c1, c2, c3⟩ := hμx.2 (by (first | ((try clear hμa); (try clear hμt); (try clear hμx); (try clear hμz); (try clear e5_); omega) | omega))
        rw [show (μ 719 (54 + n).toNat).toNat = rN pb by (first | ((try clear hμa); (try clear hμt); (try clear hμx); (try clear hμz); (try clear e5_); omega) | omega)] at c1 c3
        have hTm : TR μx (54 + n).toNat (rapp pb (Std.DTreeMap.Internal.Impl.inner 0 kx vx lx .leaf)) := TR_more hT c1 (by rw [hN1]; omega) (cpy_RA (x := Std.DTreeMap.Internal.Impl.leaf) (f := 0) (i := i.toNat) (r := Std.DTreeMap.Internal.Impl.leaf) (by exact hRx) (by rw [hl0]; exact c3) (fun _ _ _ => ⟨rfl, rfl, rfl⟩) trivial) (by (first | ((try clear hμa); (try clear hμt); (try clear hμx); (try clear hμz); (try clear e5_); omega) | omega))
        have hfm : fr (TC n.toNat) μ0 μx := fr_trans hf (fr_mono c1 (fun x y h => TC_PG htw (by (first | ((try clear hμa); (try clear hμt); (try clear hμx); (try clear hμz); (try clear e5_); omega) | omega)) h))
        have hzm : μx 0 38 = μ 0 38 := c1 _ _ (by unfold PG; omega)
        have hspan : μx (649 + 0) i.toNat = 1 + (rN lx : Int) := by rw [c1 _ _ (by unfold PG; omega)]; exact hRx.2.2.1
        refine lv_goto (tgt := 147) hx hb dX10_tidies_44 (by decide) ?_
        refine lv_iload hx hb dX10_tidies_147 (lv_at hl 0 rfl) ?_
        refine lv_aload_n hx hb dX10_tidies_149 rfl (lv_at hl 6 rfl) ?_
        refine fz_get (D := (dC, dI)) (ci := 10) (v := .ref (h0 + 648)) (C := RX10) (T := TX10) (N := 53) hx hb hts inG10 hown hK hP (k := 0) (by decide) (F := mF h0) mE_obj rfl 20 (by decide) (hts _ k1186) (fun _ h9 => h9) rfl dX10_tidies_150 ?_
        refine lv_iload_n hx hb dX10_tidies_153 rfl (lv_at hl 5 rfl) ?_
        refine fz_ald (k := 648) (n := 70) (k2 := (649 + 0)) hx hb hK hP 2 rfl (by decide) mE_span rfl ⟨by (first | ((try clear hμa); (try clear hμt); (try clear hμx); (try clear hμz); (try clear e5_); omega) | omega), by (first | ((try clear hμa); (try clear hμt); (try clear hμx); (try clear hμz); (try clear e5_); omega) | omega)⟩ (by decide) (if_pos (by (first | ((try clear hμa); (try clear hμt); (try clear hμx); (try clear hμz); (try clear e5_); omega) | omega))) dX10_tidies_154 ?_
        refine lv_iload hx hb dX10_tidies_155 (lv_at hl 0 rfl) ?_
        refine fz_ld (k := (649 + 0)) (n := 900) hx hb hK hP 0 (by (first | ((try clear hμa); (try clear hμt); (try clear hμx); (try clear hμz); (try clear e5_); omega) | omega)) (mE_spanR (by (first | ((try clear hμa); (try clear hμt); (try clear hμx); (try clear hμz); (try clear e5_); omega) | omega))) rfl ⟨by (first | ((try clear hμa); (try clear hμt); (try clear hμx); (try clear hμz); (try clear e5_); omega) | omega), by (first | ((try clear hμa); (try clear hμt); (try clear hμx); (try clear hμz); (try clear e5_); omega) | omega)⟩ (by decide) dX10_tidies_157 ?_
        rw [show μx (649 + 0) (i).toNat = 1 + (rN lx : Int) from (by exact hspan)]
        refine lv_iadd hx hb dX10_tidies_158 ?_
        refine lv_topi (fun x9 ex9 => ?_)
        obtain rfl : x9 = iZ (i + (1 + (rN lx : Int))) := ex9.trans (iZ_add _ _)
        refine lv_istore (lv' := [(6, .int (iZ (i + (1 + (rN lx : Int))))), (5, .int (iZ (54 + n))), (4, .int (iZ (n))), (3, .int (iZ (a2))), (2, .int (iZ (a1))), (1, .int (iZ (0))), (0, .ref h0)]) hx hb dX10_tidies_159 hl (by decide) rfl (fun ls hl => ?_)
        refine lv_goto (tgt := 16) hx hb dX10_tidies_161 (by decide) ?_
        exact ih (i + (1 + (rN lx : Int))) ((mm + 1)) ((rapp pb (Std.DTreeMap.Internal.Impl.inner 0 kx vx lx .leaf))) μx H locs ls (by rw [hSx]; omega) (by exact hmore) (by exact hTm) (by exact hfm) (by rw [hzm, hSx]; omega) (by (first | ((try clear hμa); (try clear hμt); (try clear hμx); (try clear hμz); (try clear e5_); omega) | omega)) hP hS (lv_sub hl [0, 1, 2, 3, 4, 5, 6] rfl)
set_option maxHeartbeats 40000000 in
set_option maxRecDepth 100000 in
theorem LX10_tidies_164 {p : Program} {l : Launch} {e : Env} {R : Room} {s : State} {m : MethodId} {args : Array Value} {below : List Frame} {meth : Method} {c : Code} {cells slots : Nat} {Q : State → Prop} {dC : Nat → ClassId} {dI : Nat → Nat → Nat} {h0 : Nat} {cI cZ cII cIII : ClassId} {d9 : Nat} (hx : p.tables.exec = Jvm.exec) (hb : c.code = cX10_tidies) (hml : c.maxLocals = 9) (hown : s.vm.findClass RX10 = some m.cls) (hts : ∀ w ∈ wsG, w.before args s = true) (hK : va_K (dC, dI) vwCl (mT cI cZ cII cIII) s) (hRf : d9 + 30 + 1 ≤ R.frames) (hRl : 8 + (9 + 11) + (40 * d9 + 950) ≤ R.locals) (hRc : cells ≤ R.cells) (hRs : slots ≤ R.slots) (hrec : ∀ (sz : Nat) (μ : va_M) (a1 : Int) (a2 : Int) (n : Int) (w : Rw), (0 ≤ n ∧ n + rH w ≤ 16 ∧ n < 16) → (0 ≤ a1 ∧ a2 = a1 + rN w ∧ a2 ≤ 900) → (RA μ 0 w a1.toNat) → (OKr w) → (rH w < d9) → Met l yX10_tidies (Cond.code yX10_tidies cX10_tidies 9 none :: wsG) ({ frames := d9 + 30, cells := 0, slots := 0, locals := 40 * d9 + 950 } : Room) (va_Pc [.ref h0, .int (iZ (0)), .int (iZ (a1)), .int (iZ (a2)), .int (iZ (n))] (fun U => U.heap.size = sz ∧ va_P (dC, dI) vwCl (fw (mE cI cZ cII cIII h0) h0 6325 μ) U.heap ∧ va_K (dC, dI) vwCl (mT cI cZ cII cIII) U)) (va_Qv (fun (u : va_M) => (∃ w2 : Rw, TR u (54 + n).toNat w2 ∧ TDr w w2) ∧ fr (TC n.toNat) μ u ∧ μ 0 38 ≤ u 0 38 ∧ u 0 38 ≤ μ 0 38 + rN w) (fun u t => va_P (dC, dI) vwCl (fw (mE cI cZ cII cIII h0) h0 6325 u) t.heap ∧ va_K (dC, dI) vwCl (mT cI cZ cII cIII) t) (fA h0 6325 sz)) 0 0 (fA h0 6325 sz)) (μ0 : va_M) (a1 : Int) (a2 : Int) (n : Int) (w : Rw) (hn : 0 ≤ n ∧ n < 16) (hO : OKr w) (hexit186 : ∀ (pb : Rw) (μ : va_M) (H : Heap) (locs : List Loc) (ls : Array Slot), (∃ w2 : Rw, TR μ (54 + n).toNat w2 ∧ TDr w w2) → (fr (TC n.toNat) μ0 μ) → (μ0 0 38 ≤ μ 0 38 ∧ μ 0 38 ≤ μ0 0 38 + rN w) → va_P (dC, dI) vwCl (fw (mE cI cZ cII cIII h0) h0 6325 μ) H → va_S (fA h0 6325 s.heap.size) s.heap H locs → lv_has ls 9 [] → W p l e R s m args below meth c H locs cells slots Q (F0 m 186 ls [])) :
    ∀ (n9 : Nat) (pb : Rw) (μ : va_M) (H : Heap) (locs : List Loc) (ls : Array Slot), (TDr w pb) → (TR μ (54 + n).toNat pb) → (fr (TC n.toNat) μ0 μ) → (μ0 0 38 ≤ μ 0 38 ∧ μ 0 38 + rI pb ≤ μ0 0 38 + rN w) → rI pb < n9 → va_P (dC, dI) vwCl (fw (mE cI cZ cII cIII h0) h0 6325 μ) H → va_S (fA h0 6325 s.heap.size) s.heap H locs → lv_has ls 9 [(5, .int (iZ (54 + n))), (4, .int (iZ (n))), (3, .int (iZ (a2))), (2, .int (iZ (a1))), (1, .int (iZ (0))), (0, .ref h0)] → W p l e R s m args below meth c H locs cells slots Q (F0 m 164 ls []) := by
  intro n9
  induction n9 with
  | zero => intro pb μ H locs ls hp hT hf hz hm9 hP hS hl; exact absurd hm9 (Nat.not_lt_zero _)
  | succ n9 ih =>
    intro pb μ H locs ls hp hT hf hz hm9 hP hS hl
    have htw : (54 + n).toNat = 54 + n.toNat := by (first | ((try clear hμo); omega) | omega)
    refine lv_aload_n hx hb dX10_tidies_164 rfl (lv_at hl 5 rfl) ?_
    refine lv_iload hx hb dX10_tidies_165 (lv_at hl 0 rfl) ?_
    refine va_calli (va_runV (As := [.int (iZ (54 + n))]) (rest := []) ⟨hx, hb, hml, hown, hts⟩ (m_tidiesOne l dC dI cI cZ cII cIII h0 H.size μ (54 + n) (pb) (by (first | ((try clear hμo); omega) | omega)) (by exact hT) (by exact OKr_TD hp hO)) (cwV 1 hts (gV_G k1448 k1450 ks_yX10_tidiesOne k13 k1451) rfl rfl rfl (by decide +kernel) ⟨by show 27 + 1 ≤ _; omega, by show 8 + (4 + 11) + (860) ≤ _; omega⟩) ⟨fun a U g mk q => by obtain ⟨q0, q1, qP, qK⟩ := q; exact ⟨q0, q1, qP, va_K.moved (u := U) (U := U.calling g mk a) (Vm.Alike.refl U.vm) qK⟩, va_recv hK hP (ci := 10) (q0 := 0) rfl ((fw_get (by decide)).trans (by rw [mE_obj]; rfl)), fun U hU hW => ⟨rfl, by rw [hU], by rw [hU]; exact hP, va_K.moved hW.alike hK⟩⟩ rfl rfl hl.1 rfl (lv_room (Nat.le_of_ble_eq_true rfl)) dX10_tidies_167 ⟨hRc, hRs⟩) hS (fun q _ h => fA_le hS.1 q h) (fA_le hS.1) (fun r9 u9 t9 H1 locs ht9 hvm9 hw9 hB9 hz9 hk9 hS => ?_)
    obtain ⟨μo, ro⟩ := u9
    obtain ⟨hP, -⟩ := hB9
    rw [ht9] at hP
    generalize H1 = H at hP hS ⊢
    obtain ⟨e9, hw9⟩ := hw9
    have e9 : r9 = iZ ro := e9
    subst e9
    simp only at hP hw9
    have hμo := hw9; clear hw9
    refine fz_if_eq (tgt := 186) (by constructor <;> (first | ((try clear hμo); omega) | omega)) hx hb dX10_tidies_170 (by decide) (fun c170_ => ?_) (fun c170_ => ?_)
    · have hfo : fr (fun x y => x = 723) μ μo := by
        rcases hμo with ⟨_, h⟩ | ⟨h, _⟩
        · exact h
        · omega
      exact hexit186 (pb) μo H locs ls (by exact ⟨pb, TR_fr hT hfo (fun x => by (first | ((try clear hμo); omega) | omega)) (by (first | ((try clear hμo); omega) | omega)), hp⟩) (by exact fr_trans hf (fr_mono hfo (fun x y h => by unfold TC; omega))) (by rw [hfo _ _ (by (first | ((try clear hμo); omega) | omega))]; omega) hP hS (lv_sub hl [] rfl)
    · obtain ⟨w3, y1_, y2_, y3_, y4_⟩ : ∃ w2 : Rw, TR μo (54 + n).toNat w2 ∧ TDr pb w2 ∧ rI w2 < rI pb ∧ fr (FQ (54 + n).toNat) μ μo := by
        rcases hμo with ⟨h, _⟩ | ⟨_, h⟩
        · omega
        · exact h
      have hz1 : μo 0 38 = μ 0 38 := y4_ _ _ (FQ_not (by (first | ((try clear hμo); omega) | omega)))
      refine lv_aload_n hx hb dX10_tidies_173 rfl (lv_at hl 5 rfl) ?_
      refine lv_dup hx hb dX10_tidies_174 rfl ?_
      refine fz_get (D := (dC, dI)) (ci := 10) (v := .int (iZ (μo 0 38))) (C := RX10) (T := TX10) (N := 53) hx hb hts inG10 hown hK hP (k := 0) (by decide) (F := mF h0) mE_obj rfl 38 (by decide) (hts _ k1204) (fun _ h9 => h9) rfl dX10_tidies_175 ?_
      refine lv_iconst (v := iZ 1) hx hb dX10_tidies_178 rfl ?_
      refine lv_iadd hx hb dX10_tidies_179 ?_
      refine lv_topi (fun x9 ex9 => ?_)
      obtain rfl : x9 = iZ ((μo 0 38) + 1) := ex9.trans (iZ_add _ _)
      refine fz_put (D := (dC, dI)) (ci := 10) (ty := .int) (z := ((μo 0 38) + 1)) (C := RX10) (T := TX10) (N := 53) hx hb hts inG10 tyX10 tyX10_ok nmX10 hown hK hP fA_in hS (k := 0) (by decide) (F := mF h0) mE_obj rfl 38 (by decide) (hts _ k1204) (fun _ h9 => h9) rfl (by decide +kernel) rfl rfl (fun _ => Nat.le_of_ble_eq_true rfl) (fun _ _ => rfl) dX10_tidies_180 (fun H locs hP hS => ?_)
      obtain ⟨μ2, eμ2⟩ : ∃ x : va_M, x = uz μo 0 38 ((μo 0 38) + 1) := ⟨_, rfl⟩
      rw [← eμ2] at hP
      refine lv_goto (tgt := 164) hx hb dX10_tidies_183 (by decide) ?_
      exact ih (w3) μ2 H locs ls (by exact TDr_trans hp y2_) (by
                    rw [eμ2]
                    exact TR_0 y1_) (by rw [eμ2]; exact fr_uz (fr_trans hf (fr_mono y4_ (fun x y h => TC_FQ htw (by (first | ((try clear hμo); omega) | omega)) h))) (by unfold TC; omega)) (by rw [eμ2, uz_s]; omega) (by (first | ((try clear hμo); omega) | omega)) hP hS (lv_sub hl [0, 1, 2, 3, 4, 5] rfl)
set_option maxHeartbeats 40000000 in
set_option maxRecDepth 100000 in
theorem m_tidies (l : Launch) (dC : Nat → ClassId) (dI : Nat → Nat → Nat) (cI cZ cII cIII : ClassId) (h0 : Nat) : ∀ (d : Nat), ∀ (sz : Nat) (μ : va_M) (a1 : Int) (a2 : Int) (n : Int) (w : Rw), (0 ≤ n ∧ n + rH w ≤ 16 ∧ n < 16) → (0 ≤ a1 ∧ a2 = a1 + rN w ∧ a2 ≤ 900) → (RA μ 0 w a1.toNat) → (OKr w) → (rH w < d) → Met l yX10_tidies (Cond.code yX10_tidies cX10_tidies 9 none :: wsG) ({ frames := d + 30, cells := 0, slots := 0, locals := 40 * d + 950 } : Room) (va_Pc [.ref h0, .int (iZ (0)), .int (iZ (a1)), .int (iZ (a2)), .int (iZ (n))] (fun U => U.heap.size = sz ∧ va_P (dC, dI) vwCl (fw (mE cI cZ cII cIII h0) h0 6325 μ) U.heap ∧ va_K (dC, dI) vwCl (mT cI cZ cII cIII) U)) (va_Qv (fun (u : va_M) => (∃ w2 : Rw, TR u (54 + n).toNat w2 ∧ TDr w w2) ∧ fr (TC n.toNat) μ u ∧ μ 0 38 ≤ u 0 38 ∧ u 0 38 ≤ μ 0 38 + rN w) (fun u t => va_P (dC, dI) vwCl (fw (mE cI cZ cII cIII h0) h0 6325 u) t.heap ∧ va_K (dC, dI) vwCl (mT cI cZ cII cIII) t) (fA h0 6325 sz)) 0 0 (fA h0 6325 sz) := by
  intro d
  induction d using Nat.strongRecOn with
  | _ d ih =>
  intro sz μ a1 a2 n w hn ha hR hO hd
  refine Met.ofW (cc := cX10_tidies) (maxL := 9) (ret := none) (by decide) rfl ?_
  intro p e s m args below meth c s₁ B hml hv
  obtain ⟨rfl, hsz, hP, hK⟩ := hv
  have hx := B.exec
  have hb := B.bytes
  have hr := B.returns
  have hts : ∀ w ∈ wsG, w.before _ s = true := hG_of (atoms_spec (ws := (Cond.code yX10_tidies cX10_tidies 9 none :: wsG)) B.pre)
  have hown : s.vm.findClass RX10 = some m.cls := findClass_of_methodNamed B.named
  have hlocks := B.notSynchronized
  subst hsz
  have hS : va_S (fA h0 6325 s.heap.size) s.heap s.heap [] := va_S.rf
  have hl := lv_entry ([.ref h0, .int (iZ (0)), .int (iZ (a1)), .int (iZ (a2)), .int (iZ (n))]) (n := 9) (Nat.le_of_ble_eq_true rfl)
  rw [lg_entry_eq]
  generalize (lg_sl ([.ref h0, .int (iZ (0)), .int (iZ (a1)), .int (iZ (a2)), .int (iZ (n))]) ++ List.replicate (9 - (lg_sl ([.ref h0, .int (iZ (0)), .int (iZ (a1)), .int (iZ (a2)), .int (iZ (n))])).length) Slot.unset).toArray = ls at hl ⊢
  have hl : lv_has ls 9 [(0, .ref h0), (1, .int (iZ (0))), (2, .int (iZ (a1))), (3, .int (iZ (a2))), (4, .int (iZ (n)))] := hl
  refine lv_bipush (v := iZ 54) hx hb dX10_tidies_0 rfl ?_
  refine lv_iload hx hb dX10_tidies_2 (lv_at hl 4 rfl) ?_
  refine lv_iadd hx hb dX10_tidies_4 ?_
  refine lv_topi (fun x9 ex9 => ?_)
  obtain rfl : x9 = iZ (54 + n) := ex9.trans (iZ_add _ _)
  refine lv_istore (lv' := [(5, .int (iZ (54 + n))), (0, .ref h0), (1, .int (iZ (0))), (2, .int (iZ (a1))), (3, .int (iZ (a2))), (4, .int (iZ (n)))]) hx hb dX10_tidies_5 hl (by decide) rfl (fun ls hl => ?_)
  refine lv_aload_n hx hb dX10_tidies_7 rfl (lv_at hl 1 rfl) ?_
  refine lv_iload hx hb dX10_tidies_8 (lv_at hl 0 rfl) ?_
  refine va_callv (va_runV (As := [.int (iZ (54 + n))]) (rest := []) ⟨hx, hb, hml, hown, hts⟩ (m_empties l dC dI cI cZ cII cIII h0 s.heap.size μ (54 + n) (by (first | ((try clear hμe); (try clear he); omega) | omega))) (cwV 1 hts (gV_G k1377 k1379 ks_yX10_empties k13 k1380) rfl rfl rfl (by decide +kernel) ⟨by show 1 + 1 ≤ d + 30; omega, by show 8 + (2 + 11) + (14) ≤ 40 * d + 950; omega⟩) ⟨fun a U g mk q => by obtain ⟨q0, q1, qP, qK⟩ := q; exact ⟨q0, q1, qP, va_K.moved (u := U) (U := U.calling g mk a) (Vm.Alike.refl U.vm) qK⟩, va_recv hK hP (ci := 10) (q0 := 0) rfl ((fw_get (by decide)).trans (by rw [mE_obj]; rfl)), fun U hU hW => ⟨rfl, by rw [hU], by rw [hU]; exact hP, va_K.moved hW.alike hK⟩⟩ rfl rfl hl.1 rfl (lv_room (Nat.le_of_ble_eq_true rfl)) dX10_tidies_10 ⟨Nat.le_of_ble_eq_true rfl, Nat.le_of_ble_eq_true rfl⟩) hS (fun q _ h => fA_le hS.1 q h) (fA_le hS.1) (fun u9 t9 H1 locs ht9 hvm9 hw9 hB9 hz9 hk9 hS => ?_)
  obtain ⟨hP, -⟩ := hB9
  rw [ht9] at hP
  generalize H1 = H at hP hS ⊢
  obtain ⟨μe, eμe⟩ : ∃ x : va_M, x = u9 := ⟨_, rfl⟩
  rw [← eμe] at hP hw9
  have hμe := hw9; clear hw9
  have he := hμe
  have htw : (54 + n).toNat = 54 + n.toNat := by (first | ((try clear hμe); (try clear he); omega) | omega)
  have fe : fr (fun x y => x = 719 ∧ y = (54 + n).toNat) μ μe := by rw [he]; exact fr_uz fr_rfl ⟨rfl, rfl⟩
  refine lv_iload_n hx hb dX10_tidies_13 rfl (lv_at hl 3 rfl) ?_
  refine lv_istore (lv' := [(6, .int (iZ (a1))), (5, .int (iZ (54 + n))), (0, .ref h0), (1, .int (iZ (0))), (2, .int (iZ (a1))), (3, .int (iZ (a2))), (4, .int (iZ (n)))]) hx hb dX10_tidies_14 hl (by decide) rfl (fun ls hl => ?_)
  refine LX10_tidies_16 (d9 := d - 1) hx hb hml hown hts hK (by show ((d - 1)) + 30 + 1 ≤ d + 30; omega) (by show 8 + (9 + 11) + (40 * ((d - 1)) + 950) ≤ 40 * d + 950; omega) (Nat.le_of_ble_eq_true rfl) (Nat.le_of_ble_eq_true rfl) (ih (d - 1) (by (first | ((try clear hμe); (try clear he); omega) | omega))) (μe) (a1) (a2) (n) (w) (by assumption) (by assumption) (by exact RA_fr hR fe (fun x => by (first | ((try clear hμe); (try clear he); omega) | omega))) (by assumption) (by (first | ((try clear hμe); (try clear he); omega) | omega)) ?_ _ (a1) (0) (.leaf) μe H locs ls (by
            have h9 : rO w 0 = 0 := by cases w <;> rfl
            rw [h9]; omega) (by trivial) (by exact ⟨by rw [he, uz_s]; rfl, trivial⟩) (by exact fr_rfl) (by
            have h9 : rO w 0 = 0 := by cases w <;> rfl
            rw [h9]; omega) (Nat.lt_succ_self _) hP hS (lv_sub hl [0, 1, 6, 5, 4, 3, 2] rfl)
  · intro i_3 mm_3 pb_3 μ3_ H locs ls q1_3 q2_3 q3_3 q4_3 hP hS hl
    have hl : lv_has ls 9 [(5, .int (iZ (54 + n))), (4, .int (iZ (n))), (3, .int (iZ (a2))), (2, .int (iZ (a1))), (1, .int (iZ (0))), (0, .ref h0)] := hl
    refine LX10_tidies_164 (d9 := d - 1) hx hb hml hown hts hK (by show ((d - 1)) + 30 + 1 ≤ d + 30; omega) (by show 8 + (9 + 11) + (40 * ((d - 1)) + 950) ≤ 40 * d + 950; omega) (Nat.le_of_ble_eq_true rfl) (Nat.le_of_ble_eq_true rfl) (ih (d - 1) (by (first | ((try clear hμe); (try clear he); omega) | omega))) (μe) (a1) (a2) (n) (w) (by (first | ((try clear hμe); (try clear he); omega) | omega)) (by exact hO) ?_ _ (pb_3) μ3_ H locs ls (by exact (RTd_is _ _ q1_3).1) (by exact q2_3) (by exact q3_3) (by
                have h9 := RTd_I q1_3
                have h8 := q4_3
                omega) (Nat.lt_succ_self _) hP hS (lv_sub hl [0, 1, 2, 3, 4, 5] rfl)
    · intro pb_4 μ4_ H locs ls q1_4 q2_4 q3_4 hP hS hl
      have hl : lv_has ls 9 [] := hl
      exact W.vret hx hb hr (fun t9 ht9 hW9 => ⟨⟨μ4_, rfl, (by
                    try dsimp only
                    have x0 : μe 0 38 = μ 0 38 := fe _ _ (by (first | ((try clear hμe); (try clear he); omega) | omega))
                    have x3 := q3_4
                    refine ⟨q1_4, fr_trans (fr_mono fe (fun x y h => by unfold TC; omega)) q2_4, ?_, ?_⟩
                    · omega
                    · omega), by rw [ht9]; exact hP, va_K.moved hW9.alike hK⟩, hS.F ht9⟩) hS.2.2 dX10_tidies_186

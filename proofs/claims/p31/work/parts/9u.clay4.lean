set_option maxRecDepth 100000 in
theorem k819 : (Cond.methodLink "PageSkeleton$Layer" (110 : Nat) ({ cls := "PageSkeleton$Row", name := "put", desc := "(I)V" } : MethodName)) ∈ wsG := wsG_a4 99 rfl rfl
set_option maxRecDepth 100000 in
theorem k824 : (Cond.methodLink "PageSkeleton$Layer" (124 : Nat) ({ cls := "PageSkeleton$Row", name := "putRange", desc := "(LPageSkeleton$Row;II)V" } : MethodName)) ∈ wsG := wsG_a4 104 rfl rfl
set_option maxRecDepth 100000 in
theorem k825 : (Cond.instanceMethod ({ cls := "PageSkeleton$Row", name := "putRange", desc := "(LPageSkeleton$Row;II)V" } : MethodName)) ∈ wsG := wsG_a4 105 rfl rfl
set_option maxRecDepth 100000 in
theorem k826 : (Cond.selects "PageSkeleton$Row" ({ cls := "PageSkeleton$Row", name := "putRange", desc := "(LPageSkeleton$Row;II)V" } : MethodName) ({ cls := "PageSkeleton$Row", name := "putRange", desc := "(LPageSkeleton$Row;II)V" } : MethodName)) ∈ wsG := wsG_a4 106 rfl rfl
set_option maxRecDepth 100000 in
theorem k827 : (Cond.code ({ cls := "PageSkeleton$Row", name := "putRange", desc := "(LPageSkeleton$Row;II)V" } : MethodName) prog_6_method_4_code (5 : Nat) (Option.none : Option Jvm.ClassFile.FieldType)) ∈ wsG := wsG_a4 107 rfl rfl
theorem dX0_leaveOut_0 : decode cX0_leaveOut 0 = .ok (.iload_n 3, 1) := by decide +kernel
theorem dX0_leaveOut_1 : decode cX0_leaveOut 1 = .ok (.iconst 4, 1) := by decide +kernel
theorem dX0_leaveOut_2 : decode cX0_leaveOut 2 = .ok (.if_icmp .ne 7, 3) := by decide +kernel
theorem dX0_leaveOut_5 : decode cX0_leaveOut 5 = .ok (.aload_n 1, 1) := by decide +kernel
theorem dX0_leaveOut_6 : decode cX0_leaveOut 6 = .ok (.goto 4, 3) := by decide +kernel
theorem dX0_leaveOut_9 : decode cX0_leaveOut 9 = .ok (.aload_n 2, 1) := by decide +kernel
theorem dX0_leaveOut_10 : decode cX0_leaveOut 10 = .ok (.astore 5, 2) := by decide +kernel
theorem dX0_leaveOut_12 : decode cX0_leaveOut 12 = .ok (.iload_n 3, 1) := by decide +kernel
theorem dX0_leaveOut_13 : decode cX0_leaveOut 13 = .ok (.iconst 4, 1) := by decide +kernel
theorem dX0_leaveOut_14 : decode cX0_leaveOut 14 = .ok (.if_icmp .ne 10, 3) := by decide +kernel
theorem dX0_leaveOut_17 : decode cX0_leaveOut 17 = .ok (.aload_n 0, 1) := by decide +kernel
theorem dX0_leaveOut_18 : decode cX0_leaveOut 18 = .ok (.getfield 26, 3) := by decide +kernel
theorem dX0_leaveOut_21 : decode cX0_leaveOut 21 = .ok (.goto 7, 3) := by decide +kernel
theorem dX0_leaveOut_24 : decode cX0_leaveOut 24 = .ok (.aload_n 0, 1) := by decide +kernel
theorem dX0_leaveOut_25 : decode cX0_leaveOut 25 = .ok (.getfield 29, 3) := by decide +kernel
theorem dX0_leaveOut_28 : decode cX0_leaveOut 28 = .ok (.istore 6, 2) := by decide +kernel
theorem dX0_leaveOut_30 : decode cX0_leaveOut 30 = .ok (.aload 5, 2) := by decide +kernel
theorem dX0_leaveOut_32 : decode cX0_leaveOut 32 = .ok (.iload 6, 2) := by decide +kernel
theorem dX0_leaveOut_34 : decode cX0_leaveOut 34 = .ok (.invokevirtual 78, 3) := by decide +kernel
theorem dX0_leaveOut_37 : decode cX0_leaveOut 37 = .ok (.istore 7, 2) := by decide +kernel
theorem dX0_leaveOut_39 : decode cX0_leaveOut 39 = .ok (.aload_n 0, 1) := by decide +kernel
theorem dX0_leaveOut_40 : decode cX0_leaveOut 40 = .ok (.getfield 32, 3) := by decide +kernel
theorem dX0_leaveOut_43 : decode cX0_leaveOut 43 = .ok (.ifCond .ne 30, 3) := by decide +kernel
theorem dX0_leaveOut_46 : decode cX0_leaveOut 46 = .ok (.aload 5, 2) := by decide +kernel
theorem dX0_leaveOut_48 : decode cX0_leaveOut 48 = .ok (.getfield 48, 3) := by decide +kernel
theorem dX0_leaveOut_51 : decode cX0_leaveOut 51 = .ok (.iload 6, 2) := by decide +kernel
theorem dX0_leaveOut_53 : decode cX0_leaveOut 53 = .ok (.iaload, 1) := by decide +kernel
theorem dX0_leaveOut_54 : decode cX0_leaveOut 54 = .ok (.sipush 513, 3) := by decide +kernel
theorem dX0_leaveOut_57 : decode cX0_leaveOut 57 = .ok (.if_icmp .eq 16, 3) := by decide +kernel
theorem dX0_leaveOut_60 : decode cX0_leaveOut 60 = .ok (.aload 4, 2) := by decide +kernel
theorem dX0_leaveOut_62 : decode cX0_leaveOut 62 = .ok (.sipush 513, 3) := by decide +kernel
theorem dX0_leaveOut_65 : decode cX0_leaveOut 65 = .ok (.invokevirtual 110, 3) := by decide +kernel
theorem dX0_leaveOut_68 : decode cX0_leaveOut 68 = .ok (.aload_n 0, 1) := by decide +kernel
theorem dX0_leaveOut_69 : decode cX0_leaveOut 69 = .ok (.iload_n 3, 1) := by decide +kernel
theorem dX0_leaveOut_70 : decode cX0_leaveOut 70 = .ok (.putfield 32, 3) := by decide +kernel
theorem dX0_leaveOut_73 : decode cX0_leaveOut 73 = .ok (.aload 4, 2) := by decide +kernel
theorem dX0_leaveOut_75 : decode cX0_leaveOut 75 = .ok (.aload 5, 2) := by decide +kernel
theorem dX0_leaveOut_77 : decode cX0_leaveOut 77 = .ok (.iload 6, 2) := by decide +kernel
theorem dX0_leaveOut_79 : decode cX0_leaveOut 79 = .ok (.iload 7, 2) := by decide +kernel
theorem dX0_leaveOut_81 : decode cX0_leaveOut 81 = .ok (.invokevirtual 124, 3) := by decide +kernel
theorem dX0_leaveOut_84 : decode cX0_leaveOut 84 = .ok (.iload_n 3, 1) := by decide +kernel
theorem dX0_leaveOut_85 : decode cX0_leaveOut 85 = .ok (.iconst 4, 1) := by decide +kernel
theorem dX0_leaveOut_86 : decode cX0_leaveOut 86 = .ok (.if_icmp .ne 12, 3) := by decide +kernel
theorem dX0_leaveOut_89 : decode cX0_leaveOut 89 = .ok (.aload_n 0, 1) := by decide +kernel
theorem dX0_leaveOut_90 : decode cX0_leaveOut 90 = .ok (.iload 7, 2) := by decide +kernel
theorem dX0_leaveOut_92 : decode cX0_leaveOut 92 = .ok (.putfield 26, 3) := by decide +kernel
theorem dX0_leaveOut_95 : decode cX0_leaveOut 95 = .ok (.goto 9, 3) := by decide +kernel
theorem dX0_leaveOut_98 : decode cX0_leaveOut 98 = .ok (.aload_n 0, 1) := by decide +kernel
theorem dX0_leaveOut_99 : decode cX0_leaveOut 99 = .ok (.iload 7, 2) := by decide +kernel
theorem dX0_leaveOut_101 : decode cX0_leaveOut 101 = .ok (.putfield 29, 3) := by decide +kernel
theorem dX0_leaveOut_104 : decode cX0_leaveOut 104 = .ok (.return_, 1) := by decide +kernel
theorem dX0_putFused_0 : decode cX0_putFused 0 = .ok (.aload 6, 2) := by decide +kernel
theorem dX0_putFused_2 : decode cX0_putFused 2 = .ok (.iload 5, 2) := by decide +kernel
theorem dX0_putFused_4 : decode cX0_putFused 4 = .ok (.invokevirtual 110, 3) := by decide +kernel
theorem dX0_putFused_7 : decode cX0_putFused 7 = .ok (.iconst 0, 1) := by decide +kernel
theorem dX0_putFused_8 : decode cX0_putFused 8 = .ok (.istore 7, 2) := by decide +kernel
theorem dX0_putFused_10 : decode cX0_putFused 10 = .ok (.iload 7, 2) := by decide +kernel
theorem dX0_putFused_12 : decode cX0_putFused 12 = .ok (.iload 4, 2) := by decide +kernel
theorem dX0_putFused_14 : decode cX0_putFused 14 = .ok (.if_icmp .ge 35, 3) := by decide +kernel
theorem dX0_putFused_17 : decode cX0_putFused 17 = .ok (.aload 6, 2) := by decide +kernel
theorem dX0_putFused_19 : decode cX0_putFused 19 = .ok (.aload_n 0, 1) := by decide +kernel
theorem dX0_putFused_20 : decode cX0_putFused 20 = .ok (.getfield 48, 3) := by decide +kernel
theorem dX0_putFused_23 : decode cX0_putFused 23 = .ok (.iload_n 1, 1) := by decide +kernel
theorem dX0_putFused_24 : decode cX0_putFused 24 = .ok (.iload 7, 2) := by decide +kernel
theorem dX0_putFused_26 : decode cX0_putFused 26 = .ok (.iadd, 1) := by decide +kernel
theorem dX0_putFused_27 : decode cX0_putFused 27 = .ok (.iaload, 1) := by decide +kernel
theorem dX0_putFused_28 : decode cX0_putFused 28 = .ok (.aload_n 2, 1) := by decide +kernel
theorem dX0_putFused_29 : decode cX0_putFused 29 = .ok (.getfield 48, 3) := by decide +kernel
theorem dX0_putFused_32 : decode cX0_putFused 32 = .ok (.iload_n 3, 1) := by decide +kernel
theorem dX0_putFused_33 : decode cX0_putFused 33 = .ok (.iload 7, 2) := by decide +kernel
theorem dX0_putFused_35 : decode cX0_putFused 35 = .ok (.iadd, 1) := by decide +kernel
theorem dX0_putFused_36 : decode cX0_putFused 36 = .ok (.iaload, 1) := by decide +kernel
theorem dX0_putFused_37 : decode cX0_putFused 37 = .ok (.invokestatic 132, 3) := by decide +kernel
theorem dX0_putFused_40 : decode cX0_putFused 40 = .ok (.invokevirtual 110, 3) := by decide +kernel
theorem dX0_putFused_43 : decode cX0_putFused 43 = .ok (.iinc 7 1, 3) := by decide +kernel
theorem dX0_putFused_46 : decode cX0_putFused 46 = .ok (.goto (-36), 3) := by decide +kernel
theorem dX0_putFused_49 : decode cX0_putFused 49 = .ok (.aload 6, 2) := by decide +kernel
theorem dX0_putFused_51 : decode cX0_putFused 51 = .ok (.sipush 515, 3) := by decide +kernel
theorem dX0_putFused_54 : decode cX0_putFused 54 = .ok (.invokevirtual 110, 3) := by decide +kernel
theorem dX0_putFused_57 : decode cX0_putFused 57 = .ok (.return_, 1) := by decide +kernel
/-! laying: what comes of it is put together -/
theorem outS_at {μ : va_M} {q rm : Nat} {d e : Int} (h : outS μ q rm d) (he : d = e) : outS μ q rm e := he ▸ h
theorem outS_fr {μ u : va_M} {q rm : Nat} {d : Int} (h : outS μ q rm d) (h0 : ∀ y, u q y = μ q y) (h1 : ∀ y, u (q + 1) y = μ (q + 1) y) : outS u q rm d := by
  have e : u (q + 1) = μ (q + 1) := funext h1
  unfold outS sgA
  rw [h0, h0, e]
  exact h
def gI (g : Int) : Int := if g = 0 then 0 else 1
theorem gI_0 : gI 0 = 0 := rfl
theorem gI_n {g : Int} (h : g ≠ 0) : gI g = 1 := if_neg h
theorem gI_b (g : Int) : 0 ≤ gI g ∧ gI g ≤ 1 := by unfold gI; split <;> decide
/-- what is put together: the out row's two first cells, and the layer's places -/
def BQ (q3 x y : Nat) : Prop := (x = q3 ∨ x = q3 + 1) ∨ (x = 41 ∧ 4 ≤ y ∧ y ≤ 6)
def gOK (g : Int) : Prop := g = 0 ∨ g = 4 ∨ g = 5
/-- where the layer is -/
def bS (μ : va_M) (q q2 q3 rm3 : Nat) : Prop := vis μ q q2 (μ 41 4) (μ 41 5) ∧ gOK (μ 41 6) ∧ outS μ q3 rm3 (Dp (μ (q + 1)) (μ 41 4).toNat + gI (μ 41 6))
theorem rowB_c {q rm : Nat} (h : rowB q rm) : 6 ≤ q ∧ q + 6 ≤ 233 ∧ rm ≤ 1100 := by have := rowB_b h; omega
theorem rG_rc {μ : va_M} {q rm : Nat} (hq : rowB q rm) (h : rG μ q rm) : 0 ≤ μ q 5 ∧ μ q 5 ≤ rm ∧ rm ≤ 1100 := by have := rG_rm hq h; omega
def apart (a b : Nat) : Prop := a + 6 ≤ b ∨ b + 6 ≤ a
theorem n41 {q3 rm3 : Nat} (h : rowB q3 rm3) : ¬ ((41 : Nat) = q3 ∨ (41 : Nat) = q3 + 1) := by have := rowB_f h; omega
theorem ag_2 {μ u : va_M} {q q3 : Nat} (ha : apart q3 q) (hf : fr (fun x _ => x = q3 ∨ x = q3 + 1) μ u) : ag μ u q := fun x y h1 h2 => hf _ _ (by unfold apart at ha; (first | ((try clear hf); omega) | omega))
theorem ag_BQ {μ u : va_M} {q rm q3 : Nat} (h : rowB q rm) (ha : apart q3 q) (hf : fr (BQ q3) μ u) : ag μ u q := fun x y h1 h2 => hf _ _ (by
  have := rowB_f h
  unfold apart at ha
  unfold BQ
  omega)
theorem BQ_41 {μ u : va_M} {q3 rm3 y : Nat} (h : rowB q3 rm3) (hy : y < 4) (hf : fr (BQ q3) μ u) : u 41 y = μ 41 y := hf _ _ (by
  have := rowB_f h
  unfold BQ
  omega)
theorem BQ_42 {μ u : va_M} {q3 rm3 y : Nat} (h : rowB q3 rm3) (hf : fr (BQ q3) μ u) : u 42 y = μ 42 y := hf _ _ (by
  have := rowB_f h
  unfold BQ
  omega)
theorem ag_E {μ u : va_M} {q : Nat} (h : ag μ u q) : u (q + 1) = μ (q + 1) := funext (fun y => h _ y (by omega) (by omega))
theorem ag_5 {μ u : va_M} {q : Nat} (h : ag μ u q) : u q 5 = μ q 5 := h _ _ (by omega) (by omega)
theorem of_w {μ u : va_M} {q3 rm3 k j : Nat} {v d : Int} (h : rowB q3 rm3) (hk : k = 41) (ho : outS μ q3 rm3 d) (e : u = uz μ k j v) : outS u q3 rm3 d := by
  have := rowB_f h
  exact outS_fr ho (fun y => by rw [e, uz_n (by omega)]) (fun y => by rw [e, uz_n (by omega)])
/-- the item at a place, as a stretch -/
theorem it_sg {μ : va_M} {q rm : Nat} {i : Int} (hG : rG μ q rm) (h0 : 0 ≤ i) (hi : i < μ q 5) (hc : μ (q + 1) i.toNat ≠ 515) : seg (μ (q + 1)) i.toNat (μ (q + 2) i.toNat + 1).toNat := by
  obtain ⟨m, m1, m2, m3, m4, m5, m6⟩ := it_af hG (i := i.toNat) (by (first | ((try clear m6); (try clear m5); (try clear m4); (try clear m3); (try clear m2); (try clear m1); (try clear hc); omega) | omega)) hc
  rw [m1, show ((m : Int) + 1).toNat = m + 1 by (first | ((try clear m6); (try clear m5); (try clear m4); (try clear m3); (try clear m2); (try clear m1); (try clear hc); (try clear hi); omega) | omega)]; exact m4
set_option maxHeartbeats 4000000 in
set_option maxRecDepth 100000 in
theorem LX0_putFused_10 {p : Program} {l : Launch} {e : Env} {R : Room} {s : State} {m : MethodId} {args : Array Value} {below : List Frame} {meth : Method} {c : Code} {cells slots : Nat} {Q : State → Prop} {dC : Nat → ClassId} {dI : Nat → Nat → Nat} {h0 : Nat} {cI cZ cII cIII : ClassId} (hx : p.tables.exec = Jvm.exec) (hb : c.code = cX0_putFused) (hml : c.maxLocals = 8) (hown : s.vm.findClass RX0 = some m.cls) (hts : ∀ w ∈ wsG, w.before args s = true) (hK : va_K (dC, dI) vwCl (sT cI cZ cII cIII) s) (hM : xM s) (hRf : 2 ≤ R.frames) (hRl : 35 ≤ R.locals) (hRc : cells ≤ R.cells) (hRs : slots ≤ R.slots) (μ0 : va_M) (q : Nat) (rm : Nat) (q2 : Nat) (rm2 : Nat) (q3 : Nat) (rm3 : Nat) (i : Int) (j : Int) (n : Int) (kk : Int) (d9 : Int) (hq : rowB q rm) (hq2 : rowB q2 rm2) (hq3 : rowB q3 rm3) (ha3 : q3 + 6 ≤ q ∨ q + 6 ≤ q3) (ha32 : q3 + 6 ≤ q2 ∨ q2 + 6 ≤ q3) (hG : rG μ0 q rm) (hG2 : rG μ0 q2 rm2) (h96 : rm2 = 96) (hbp : 0 ≤ i ∧ 0 ≤ n ∧ i + n ≤ μ0 q 5 ∧ 0 ≤ j ∧ j + n ≤ μ0 q2 5) (hal : ∀ t : Nat, (t : Int) < n → sAl (μ0 (q + 1) (i.toNat + t)) (μ0 (q2 + 1) (j.toNat + t))) (hsg : seg (μ0 (q + 1)) i.toNat (i + n).toNat) (hkk : kk = 513 ∨ kk = 514) (hd9 : 0 ≤ d9) (hexit49 : ∀ (k : Int) (μ : va_M) (H : Heap) (locs : List Loc) (ls : Array Slot), (fr (fun x _ => x = q3 ∨ x = q3 + 1) μ0 μ) → (outS μ q3 rm3 (d9 + 1)) → va_P (dC, dI) vwCl (fw (sE cI cZ cII cIII h0) h0 233 μ) H → va_S (fA h0 233 s.heap.size) s.heap H locs → lv_has ls 8 [(6, .ref (h0 + q3))] → W p l e R s m args below meth c H locs cells slots Q (F0 m 49 ls [])) :
    ∀ (n9 : Nat) (k : Int) (μ : va_M) (H : Heap) (locs : List Loc) (ls : Array Slot), (0 ≤ k ∧ k ≤ n) → (fr (fun x _ => x = q3 ∨ x = q3 + 1) μ0 μ) → (outS μ q3 rm3 (d9 + 1 + (Dp (μ0 (q + 1)) (i + k).toNat - Dp (μ0 (q + 1)) i.toNat))) → (n - k).toNat < n9 → va_P (dC, dI) vwCl (fw (sE cI cZ cII cIII h0) h0 233 μ) H → va_S (fA h0 233 s.heap.size) s.heap H locs → lv_has ls 8 [(7, .int (iZ (k))), (6, .ref (h0 + q3)), (4, .int (iZ (n))), (3, .int (iZ (j))), (2, .ref (h0 + q2)), (1, .int (iZ (i))), (0, .ref (h0 + q))] → W p l e R s m args below meth c H locs cells slots Q (F0 m 10 ls []) := by
  intro n9
  induction n9 with
  | zero => intro k μ H locs ls hk hf ho hm9 hP hS hl; exact absurd hm9 (Nat.not_lt_zero _)
  | succ n9 ih =>
    intro k μ H locs ls hk hf ho hm9 hP hS hl
    have hrm := rG_rm hq hG
    have hrm2 := rG_rm hq2 hG2
    have hqb := rowB_b hq
    have hqb2 := rowB_b hq2
    have hqb3 := rowB_b hq3
    refine lv_iload hx hb dX0_putFused_10 (lv_at hl 0 rfl) ?_
    refine lv_iload hx hb dX0_putFused_12 (lv_at hl 2 rfl) ?_
    refine fz_icmp_ge (tgt := 49) (by constructor <;> (first | ((try clear hqb3); (try clear hqb2); (try clear hqb); (try clear hrm); (try clear hm9); (try clear ho); (try clear hf); (try clear hexit49); (try clear hd9); (try clear hkk); (try clear hsg); (try clear hal); (try clear ha32); (try clear ha3); (try clear hRs); (try clear hRc); (try clear hRl); (try clear hRf); omega) | omega)) (by constructor <;> (first | ((try clear hqb3); (try clear hqb2); (try clear hqb); (try clear hrm); (try clear hm9); (try clear ho); (try clear hf); (try clear hk); (try clear hexit49); (try clear hd9); (try clear hkk); (try clear hsg); (try clear hal); (try clear ha32); (try clear ha3); (try clear hRs); (try clear hRc); (try clear hRl); (try clear hRf); omega) | omega)) hx hb dX0_putFused_14 (by decide) (fun c14_ => ?_) (fun c14_ => ?_)
    · exact hexit49 (k) μ H locs ls (by exact hf) (by
                    refine outS_at ho ?_
                    have h9 := hsg.2.1
                    rw [show i + k = i + n by (first | ((try clear h9); (try clear hqb3); (try clear hqb2); (try clear hqb); (try clear hrm2); (try clear hrm); (try clear hm9); (try clear ho); (try clear hf); (try clear hexit49); (try clear hd9); (try clear hkk); (try clear hsg); (try clear hal); (try clear hbp); (try clear h96); (try clear ha32); (try clear ha3); (try clear hRs); (try clear hRc); (try clear hRl); (try clear hRf); omega) | omega)]
                    (first | ((try clear c14_); (try clear hqb3); (try clear hqb2); (try clear hqb); (try clear hrm2); (try clear hrm); (try clear hm9); (try clear ho); (try clear hf); (try clear hk); (try clear hexit49); (try clear hd9); (try clear hkk); (try clear hsg); (try clear hal); (try clear hbp); (try clear h96); (try clear ha32); (try clear ha3); (try clear hRs); (try clear hRc); (try clear hRl); (try clear hRf); omega) | omega)) hP hS (lv_sub hl [1] rfl)
    · have w1 : μ (q + 1) (i + k).toNat = μ0 (q + 1) (i.toNat + k.toNat) := by rw [hf _ _ (by (first | ((try clear w1); (try clear hm9); (try clear ho); (try clear hf); (try clear hk); (try clear hexit49); (try clear hd9); (try clear hsg); (try clear hal); (try clear hbp); (try clear hRs); (try clear hRc); (try clear hRl); (try clear hRf); omega) | omega)), show (i + k).toNat = i.toNat + k.toNat by (first | ((try clear w1); (try clear c14_); (try clear hqb3); (try clear hqb2); (try clear hqb); (try clear hrm2); (try clear hrm); (try clear hm9); (try clear ho); (try clear hf); (try clear hexit49); (try clear hd9); (try clear hkk); (try clear hsg); (try clear hal); (try clear h96); (try clear ha32); (try clear ha3); (try clear hRs); (try clear hRc); (try clear hRl); (try clear hRf); omega) | omega)]
      have w2 : μ (q2 + 1) (j + k).toNat = μ0 (q2 + 1) (j.toNat + k.toNat) := by rw [hf _ _ (by (first | ((try clear w2); (try clear w1); (try clear hm9); (try clear ho); (try clear hf); (try clear hk); (try clear hexit49); (try clear hd9); (try clear hsg); (try clear hal); (try clear hbp); (try clear ha3); (try clear hRs); (try clear hRc); (try clear hRl); (try clear hRf); omega) | omega)), show (j + k).toNat = j.toNat + k.toNat by (first | ((try clear w2); (try clear w1); (try clear c14_); (try clear hqb3); (try clear hqb2); (try clear hqb); (try clear hrm); (try clear hm9); (try clear ho); (try clear hf); (try clear hexit49); (try clear hd9); (try clear hkk); (try clear hsg); (try clear hal); (try clear ha32); (try clear ha3); (try clear hRs); (try clear hRc); (try clear hRl); (try clear hRf); omega) | omega)]
      have hs1 := hG.1 (i.toNat + k.toNat)
      have hs2 := hG2.1 (j.toNat + k.toNat)
      have ha := hal k.toNat (by (first | ((try clear ha); (try clear hs2); (try clear hs1); (try clear w2); (try clear w1); (try clear hqb3); (try clear hqb2); (try clear hqb); (try clear hrm2); (try clear hrm); (try clear hm9); (try clear ho); (try clear hf); (try clear hexit49); (try clear hd9); (try clear hkk); (try clear hsg); (try clear hal); (try clear hbp); (try clear h96); (try clear ha32); (try clear ha3); (try clear hRs); (try clear hRc); (try clear hRl); (try clear hRf); omega) | omega))
      have hv := ((rG_bal hG).2 (i.toNat + k.toNat) (by (first | ((try clear ha); (try clear hs2); (try clear hs1); (try clear w2); (try clear w1); (try clear hqb3); (try clear hqb2); (try clear hqb); (try clear hrm2); (try clear hm9); (try clear ho); (try clear hf); (try clear hexit49); (try clear hd9); (try clear hkk); (try clear hsg); (try clear hal); (try clear h96); (try clear ha32); (try clear ha3); (try clear hRs); (try clear hRc); (try clear hRl); (try clear hRf); omega) | omega))).2 (by (first | ((try clear ha); (try clear hs2); (try clear hs1); (try clear w2); (try clear w1); (try clear hqb3); (try clear hqb2); (try clear hqb); (try clear hrm2); (try clear hrm); (try clear hm9); (try clear ho); (try clear hf); (try clear hexit49); (try clear hd9); (try clear hkk); (try clear hsg); (try clear hal); (try clear h96); (try clear ha32); (try clear ha3); (try clear hRs); (try clear hRc); (try clear hRl); (try clear hRf); omega) | omega))
      have hD := Dp_s (μ0 (q + 1)) (i.toNat + k.toNat)
      have hge := hsg.2.2 (i.toNat + k.toNat + 1) (by (first | ((try clear hge); (try clear hD); (try clear ha); (try clear hs2); (try clear hs1); (try clear w2); (try clear w1); (try clear c14_); (try clear hqb3); (try clear hqb2); (try clear hqb); (try clear hrm2); (try clear hrm); (try clear hm9); (try clear ho); (try clear hf); (try clear hk); (try clear hexit49); (try clear hd9); (try clear hkk); (try clear hsg); (try clear hal); (try clear hbp); (try clear h96); (try clear ha32); (try clear ha3); (try clear hRs); (try clear hRc); (try clear hRl); (try clear hRf); omega) | omega)) (by (first | ((try clear hge); (try clear hD); (try clear ha); (try clear hs2); (try clear hs1); (try clear w2); (try clear w1); (try clear hqb3); (try clear hqb2); (try clear hqb); (try clear hrm2); (try clear hrm); (try clear hm9); (try clear ho); (try clear hf); (try clear hexit49); (try clear hd9); (try clear hkk); (try clear hsg); (try clear hal); (try clear h96); (try clear ha32); (try clear ha3); (try clear hRs); (try clear hRc); (try clear hRl); (try clear hRf); omega) | omega))
      have ho1 := ho.1
      refine lv_aload hx hb dX0_putFused_17 (lv_at hl 1 rfl) ?_
      refine lv_aload_n hx hb dX0_putFused_19 rfl (lv_at hl 6 rfl) ?_
      refine fz_get (D := (dC, dI)) (ci := 4) (v := .ref (h0 + (q + 1))) (C := RX4) (T := TX4) (N := 8) hx hb hts inG4 hown hK hP (k := q) (by (first | ((try clear ho1); (try clear hge); (try clear hD); (try clear ha); (try clear hs2); (try clear hs1); (try clear w2); (try clear w1); (try clear c14_); (try clear hqb3); (try clear hqb2); (try clear hrm2); (try clear hrm); (try clear hm9); (try clear ho); (try clear hf); (try clear hk); (try clear hexit49); (try clear hd9); (try clear hkk); (try clear hsg); (try clear hal); (try clear hbp); (try clear h96); (try clear ha32); (try clear ha3); (try clear hRs); (try clear hRc); (try clear hRl); (try clear hRf); omega) | omega)) (F := (sRF h0 q)) (sE_rowO hq) rfl 0 (by decide) (hts _ k80) (fun _ h9 => h9) rfl dX0_putFused_20 ?_
      refine lv_iload_n hx hb dX0_putFused_23 rfl (lv_at hl 5 rfl) ?_
      refine lv_iload hx hb dX0_putFused_24 (lv_at hl 0 rfl) ?_
      refine lv_iadd hx hb dX0_putFused_26 ?_
      refine lv_topi (fun x9 ex9 => ?_)
      obtain rfl : x9 = iZ (i + k) := ex9.trans (iZ_add _ _)
      refine fz_ld (k := (q + 1)) (n := rm) hx hb hK hP 0 (by (first | ((try clear ex9); (try clear ho1); (try clear hge); (try clear hD); (try clear ha); (try clear hs2); (try clear hs1); (try clear w2); (try clear w1); (try clear c14_); (try clear hqb3); (try clear hqb2); (try clear hrm2); (try clear hrm); (try clear hm9); (try clear ho); (try clear hf); (try clear hk); (try clear hexit49); (try clear hd9); (try clear hkk); (try clear hsg); (try clear hal); (try clear hbp); (try clear h96); (try clear ha32); (try clear ha3); (try clear hRs); (try clear hRc); (try clear hRl); (try clear hRf); omega) | omega)) (sE_rowA (r := 1) hq (by decide)) rfl ⟨by (first | ((try clear ex9); (try clear ho1); (try clear hge); (try clear hD); (try clear ha); (try clear hs2); (try clear hs1); (try clear w2); (try clear w1); (try clear c14_); (try clear hqb3); (try clear hqb2); (try clear hqb); (try clear hrm2); (try clear hrm); (try clear hm9); (try clear ho); (try clear hf); (try clear hexit49); (try clear hd9); (try clear hkk); (try clear hsg); (try clear hal); (try clear h96); (try clear ha32); (try clear ha3); (try clear hRs); (try clear hRc); (try clear hRl); (try clear hRf); omega) | omega), by (first | ((try clear ex9); (try clear ho1); (try clear hge); (try clear hD); (try clear ha); (try clear hs2); (try clear hs1); (try clear w2); (try clear w1); (try clear hqb3); (try clear hqb2); (try clear hqb); (try clear hrm2); (try clear hm9); (try clear ho); (try clear hf); (try clear hk); (try clear hexit49); (try clear hd9); (try clear hkk); (try clear hsg); (try clear hal); (try clear h96); (try clear ha32); (try clear ha3); (try clear hRs); (try clear hRc); (try clear hRl); (try clear hRf); omega) | omega)⟩ (by (first | ((try clear ex9); (try clear ho1); (try clear hge); (try clear hD); (try clear ha); (try clear hs2); (try clear hs1); (try clear w2); (try clear w1); (try clear c14_); (try clear hrm2); (try clear hrm); (try clear hm9); (try clear ho); (try clear hf); (try clear hk); (try clear hexit49); (try clear hd9); (try clear hkk); (try clear hsg); (try clear hal); (try clear hbp); (try clear ha32); (try clear ha3); (try clear hRs); (try clear hRc); (try clear hRl); (try clear hRf); omega) | omega)) dX0_putFused_27 ?_
      refine lv_aload_n hx hb dX0_putFused_28 rfl (lv_at hl 4 rfl) ?_
      refine fz_get (D := (dC, dI)) (ci := 4) (v := .ref (h0 + (q2 + 1))) (C := RX4) (T := TX4) (N := 8) hx hb hts inG4 hown hK hP (k := q2) (by (first | ((try clear ex9); (try clear ho1); (try clear hge); (try clear hD); (try clear ha); (try clear hs2); (try clear hs1); (try clear w2); (try clear w1); (try clear c14_); (try clear hqb3); (try clear hqb); (try clear hrm2); (try clear hrm); (try clear hm9); (try clear ho); (try clear hf); (try clear hk); (try clear hexit49); (try clear hd9); (try clear hkk); (try clear hsg); (try clear hal); (try clear hbp); (try clear h96); (try clear ha32); (try clear ha3); (try clear hRs); (try clear hRc); (try clear hRl); (try clear hRf); omega) | omega)) (F := (sRF h0 q2)) (sE_rowO hq2) rfl 0 (by decide) (hts _ k80) (fun _ h9 => h9) rfl dX0_putFused_29 ?_
      refine lv_iload_n hx hb dX0_putFused_32 rfl (lv_at hl 3 rfl) ?_
      refine lv_iload hx hb dX0_putFused_33 (lv_at hl 0 rfl) ?_
      refine lv_iadd hx hb dX0_putFused_35 ?_
      refine lv_topi (fun x9 ex9 => ?_)
      obtain rfl : x9 = iZ (j + k) := ex9.trans (iZ_add _ _)
      refine fz_ld (k := (q2 + 1)) (n := rm2) hx hb hK hP 0 (by (first | ((try clear ex9); (try clear ho1); (try clear hge); (try clear hD); (try clear ha); (try clear hs2); (try clear hs1); (try clear w2); (try clear w1); (try clear c14_); (try clear hqb3); (try clear hqb); (try clear hrm2); (try clear hrm); (try clear hm9); (try clear ho); (try clear hf); (try clear hk); (try clear hexit49); (try clear hd9); (try clear hkk); (try clear hsg); (try clear hal); (try clear hbp); (try clear h96); (try clear ha32); (try clear ha3); (try clear hRs); (try clear hRc); (try clear hRl); (try clear hRf); omega) | omega)) (sE_rowA (r := 1) hq2 (by decide)) rfl ⟨by (first | ((try clear ex9); (try clear ho1); (try clear hge); (try clear hD); (try clear ha); (try clear hs2); (try clear hs1); (try clear w2); (try clear w1); (try clear c14_); (try clear hqb3); (try clear hqb2); (try clear hqb); (try clear hrm2); (try clear hrm); (try clear hm9); (try clear ho); (try clear hf); (try clear hexit49); (try clear hd9); (try clear hkk); (try clear hsg); (try clear hal); (try clear h96); (try clear ha32); (try clear ha3); (try clear hRs); (try clear hRc); (try clear hRl); (try clear hRf); omega) | omega), by (first | ((try clear ex9); (try clear ho1); (try clear hge); (try clear hD); (try clear ha); (try clear hs2); (try clear hs1); (try clear w2); (try clear w1); (try clear hqb3); (try clear hqb2); (try clear hqb); (try clear hrm); (try clear hm9); (try clear ho); (try clear hf); (try clear hk); (try clear hexit49); (try clear hd9); (try clear hkk); (try clear hsg); (try clear hal); (try clear ha32); (try clear ha3); (try clear hRs); (try clear hRc); (try clear hRl); (try clear hRf); omega) | omega)⟩ (by (first | ((try clear ex9); (try clear ho1); (try clear hge); (try clear hD); (try clear ha); (try clear hs2); (try clear hs1); (try clear w2); (try clear w1); (try clear c14_); (try clear hqb3); (try clear hqb2); (try clear hqb); (try clear hrm2); (try clear hrm); (try clear hm9); (try clear ho); (try clear hf); (try clear hk); (try clear hexit49); (try clear hd9); (try clear hkk); (try clear hsg); (try clear hal); (try clear hbp); (try clear ha32); (try clear ha3); (try clear hRs); (try clear hRc); (try clear hRl); (try clear hRf); omega) | omega)) dX0_putFused_36 ?_
      refine va_calli (va_runSN (As := [.int (iZ (μ (q + 1) (i + k).toNat)), .int (iZ (μ (q2 + 1) (j + k).toNat))]) (rest := [.ref (h0 + q3)]) ⟨hx, hb, hml, hown, hts⟩ (s_fused l dC dI cI cZ cII cIII h0 H.size μ (μ (q + 1) (i + k).toNat) (μ (q2 + 1) (j + k).toNat) (by constructor <;> (first | ((try clear ex9); (try clear ho1); (try clear hge); (try clear hD); (try clear ha); (try clear hs2); (try clear w2); (try clear c14_); (try clear hqb3); (try clear hqb2); (try clear hqb); (try clear hrm2); (try clear hrm); (try clear hm9); (try clear ho); (try clear hf); (try clear hk); (try clear hexit49); (try clear hd9); (try clear hkk); (try clear hsg); (try clear hal); (try clear hbp); (try clear h96); (try clear ha32); (try clear ha3); (try clear hRs); (try clear hRc); (try clear hRl); (try clear hRf); omega) | omega)) (by constructor <;> (first | ((try clear ex9); (try clear ho1); (try clear hge); (try clear hD); (try clear ha); (try clear hs1); (try clear w1); (try clear c14_); (try clear hqb3); (try clear hqb2); (try clear hqb); (try clear hrm2); (try clear hrm); (try clear hm9); (try clear ho); (try clear hf); (try clear hk); (try clear hexit49); (try clear hd9); (try clear hkk); (try clear hsg); (try clear hal); (try clear hbp); (try clear h96); (try clear ha32); (try clear ha3); (try clear hRs); (try clear hRc); (try clear hRl); (try clear hRf); omega) | omega))) ⟨va_cnB (host := "PageSkeleton") 2 hts (gI_G k458) rfl rfl rfl (xM_nest hM 19 rfl) (hts _ k1) (by decide +kernel) ⟨by show 1 + 1 ≤ _; (first | ((try clear ex9); (try clear ho1); (try clear hge); (try clear hD); (try clear ha); (try clear hs2); (try clear hs1); (try clear w2); (try clear w1); (try clear c14_); (try clear hqb3); (try clear hqb2); (try clear hqb); (try clear hrm2); (try clear hrm); (try clear hm9); (try clear ho); (try clear hf); (try clear hk); (try clear hexit49); (try clear hd9); (try clear hkk); (try clear hsg); (try clear hal); (try clear hbp); (try clear h96); (try clear ha32); (try clear ha3); (try clear hRs); (try clear hRc); (try clear hRl); omega) | omega), by show 8 + (2 + 11) + (14) ≤ _; (first | ((try clear ex9); (try clear ho1); (try clear hge); (try clear hD); (try clear ha); (try clear hs2); (try clear hs1); (try clear w2); (try clear w1); (try clear c14_); (try clear hqb3); (try clear hqb2); (try clear hqb); (try clear hrm2); (try clear hrm); (try clear hm9); (try clear ho); (try clear hf); (try clear hk); (try clear hexit49); (try clear hd9); (try clear hkk); (try clear hsg); (try clear hal); (try clear hbp); (try clear h96); (try clear ha32); (try clear ha3); (try clear hRs); (try clear hRc); (try clear hRf); omega) | omega)⟩, hts _ k457, trivial⟩ ⟨fun a U g mk q => by obtain ⟨q0, q1, qP, qK, qM⟩ := q; exact ⟨q0, q1, qP, va_K.moved (u := U) (U := U.calling g mk a) (Vm.Alike.refl U.vm) qK, qM⟩, fun U hU hW => ⟨rfl, by rw [hU], by rw [hU]; exact hP, va_K.moved hW.alike hK, xM_warm hW hM⟩⟩ rfl rfl hl.1 rfl (lv_room (Nat.le_of_ble_eq_true rfl)) dX0_putFused_37 ⟨hRc, hRs⟩) hS (fun q _ h => fA_le hS.1 q h) (fA_le hS.1) (fun r9 u9 t9 H1 locs ht9 hvm9 hw9 hB9 hz9 hk9 hS => ?_)
      obtain ⟨μq, rq⟩ := u9
      obtain ⟨hP, -⟩ := hB9
      rw [ht9] at hP
      generalize H1 = H at hP hS ⊢
      obtain ⟨e9, hw9⟩ := hw9
      have e9 : r9 = iZ rq := e9
      subst e9
      simp only at hP hw9
      have hμq := hw9; clear hw9
      rw [hμq.1] at hP; have hμq := hμq.2
      have hrq : rq = sFu (μ (q + 1) (i + k).toNat) (μ (q2 + 1) (j + k).toNat) := hμq
      rw [w1, w2] at hrq
      have hdq : dl rq = dl (μ0 (q + 1) (i.toNat + k.toNat)) := by rw [hrq]; exact sFu_dl ha
      have hvq : vS rq := by rw [hrq]; exact sFu_v hv
      refine va_callv (va_runV (As := [.int (iZ (rq))]) (rest := []) ⟨hx, hb, hml, hown, hts⟩ (s_Rput l dC dI cI cZ cII cIII h0 H.size μ (q3) (rm3) (rq) (hq3) (by exact ho1)) (cwV 1 hts (gV_G k819 k411 k412 k3 k413) rfl rfl rfl (by decide +kernel) ⟨by show 1 + 1 ≤ _; (first | ((try clear hdq); (try clear hrq); (try clear hμq); (try clear rq); (try clear μq); (try clear hz9); (try clear ex9); (try clear ho1); (try clear hge); (try clear hD); (try clear ha); (try clear hs2); (try clear hs1); (try clear w2); (try clear w1); (try clear c14_); (try clear hqb3); (try clear hqb2); (try clear hqb); (try clear hrm2); (try clear hrm); (try clear hm9); (try clear ho); (try clear hf); (try clear hk); (try clear hexit49); (try clear hd9); (try clear hkk); (try clear hsg); (try clear hal); (try clear hbp); (try clear h96); (try clear ha32); (try clear ha3); (try clear hRs); (try clear hRc); (try clear hRl); omega) | omega), by show 8 + (2 + 11) + (14) ≤ _; (first | ((try clear hdq); (try clear hrq); (try clear hμq); (try clear rq); (try clear μq); (try clear hz9); (try clear ex9); (try clear ho1); (try clear hge); (try clear hD); (try clear ha); (try clear hs2); (try clear hs1); (try clear w2); (try clear w1); (try clear c14_); (try clear hqb3); (try clear hqb2); (try clear hqb); (try clear hrm2); (try clear hrm); (try clear hm9); (try clear ho); (try clear hf); (try clear hk); (try clear hexit49); (try clear hd9); (try clear hkk); (try clear hsg); (try clear hal); (try clear hbp); (try clear h96); (try clear ha32); (try clear ha3); (try clear hRs); (try clear hRc); (try clear hRf); omega) | omega)⟩) ⟨fun a U g mk q => by obtain ⟨q0, q1, qP, qK, qM⟩ := q; exact ⟨q0, q1, qP, va_K.moved (u := U) (U := U.calling g mk a) (Vm.Alike.refl U.vm) qK, qM⟩, va_recv hK hP (ci := 4) (q0 := q3) rfl ((fw_get (by (first | ((try clear mk); (try clear g); (try clear U); (try clear hdq); (try clear hrq); (try clear hμq); (try clear μq); (try clear hz9); (try clear ex9); (try clear ho1); (try clear hge); (try clear hD); (try clear ha); (try clear hs2); (try clear hs1); (try clear w2); (try clear w1); (try clear c14_); (try clear hqb2); (try clear hqb); (try clear hrm2); (try clear hrm); (try clear hm9); (try clear ho); (try clear hf); (try clear hk); (try clear hexit49); (try clear hd9); (try clear hkk); (try clear hsg); (try clear hal); (try clear hbp); (try clear h96); (try clear ha32); (try clear ha3); (try clear hRs); (try clear hRc); (try clear hRl); (try clear hRf); omega) | omega))).trans (by rw [(sE_rowO hq3)])), fun U hU hW => ⟨rfl, by rw [hU], by rw [hU]; exact hP, va_K.moved hW.alike hK, xM_warm hW hM⟩⟩ rfl rfl hl.1 rfl (lv_room (Nat.le_of_ble_eq_true rfl)) dX0_putFused_40 ⟨hRc, hRs⟩) hS (fun q _ h => fA_le hS.1 q h) (fA_le hS.1) (fun u9 t9 H1 locs ht9 hvm9 hw9 hB9 hz9 hk9 hS => ?_)
      obtain ⟨hP, -⟩ := hB9
      rw [ht9] at hP
      generalize H1 = H at hP hS ⊢
      obtain ⟨μp, eμp⟩ : ∃ x : va_M, x = u9 := ⟨_, rfl⟩
      rw [← eμp] at hP hw9
      have hμp := hw9; clear hw9
      obtain ⟨c1, c2⟩ := hμp
      rw [show (i + k).toNat = i.toNat + k.toNat by (first | ((try clear c2); (try clear c1); (try clear hμp); (try clear x); (try clear eμp); (try clear μp); (try clear hz9); (try clear hdq); (try clear hrq); (try clear hμq); (try clear μq); (try clear ex9); (try clear ho1); (try clear hge); (try clear hD); (try clear ha); (try clear hs2); (try clear hs1); (try clear w2); (try clear w1); (try clear c14_); (try clear hqb3); (try clear hqb2); (try clear hqb); (try clear hrm2); (try clear hrm); (try clear hm9); (try clear ho); (try clear hf); (try clear hexit49); (try clear hd9); (try clear hkk); (try clear hsg); (try clear hal); (try clear h96); (try clear ha32); (try clear ha3); (try clear hRs); (try clear hRc); (try clear hRl); (try clear hRf); omega) | omega)] at ho
      obtain ⟨o1, o2⟩ := outS_put ho hvq (by (first | ((try clear o2); (try clear o1); (try clear c2); (try clear c1); (try clear hμp); (try clear x); (try clear eμp); (try clear μp); (try clear hz9); (try clear hrq); (try clear hμq); (try clear μq); (try clear ex9); (try clear ho1); (try clear ha); (try clear hs2); (try clear hs1); (try clear w2); (try clear w1); (try clear c14_); (try clear hqb3); (try clear hqb2); (try clear hqb); (try clear hrm2); (try clear hrm); (try clear hm9); (try clear ho); (try clear hf); (try clear hk); (try clear hexit49); (try clear hkk); (try clear hsg); (try clear hal); (try clear hbp); (try clear h96); (try clear ha32); (try clear ha3); (try clear hRs); (try clear hRc); (try clear hRl); (try clear hRf); omega) | omega)) c1 c2
      refine lv_iinc (v := iZ (k + 1)) (lv' := [(7, .int (iZ (k + 1))), (6, .ref (h0 + q3)), (4, .int (iZ (n))), (3, .int (iZ (j))), (2, .ref (h0 + q2)), (1, .int (iZ (i))), (0, .ref (h0 + q))]) hx hb dX0_putFused_43 hl (k := 0) rfl (iZ_add _ _) (by decide) rfl (fun ls hl => ?_)
      refine lv_goto (tgt := 10) hx hb dX0_putFused_46 (by decide) ?_
      exact ih (k + 1) μp H locs ls (by (first | ((try clear o2); (try clear o1); (try clear c2); (try clear c1); (try clear hμp); (try clear x); (try clear eμp); (try clear μp); (try clear hz9); (try clear hdq); (try clear hrq); (try clear hμq); (try clear μq); (try clear ex9); (try clear ho1); (try clear hge); (try clear hD); (try clear ha); (try clear hs2); (try clear hs1); (try clear w2); (try clear w1); (try clear hqb3); (try clear hqb2); (try clear hqb); (try clear hrm2); (try clear hrm); (try clear hm9); (try clear ho); (try clear hf); (try clear hexit49); (try clear hd9); (try clear hkk); (try clear hsg); (try clear hal); (try clear hbp); (try clear h96); (try clear ha32); (try clear ha3); (try clear hRs); (try clear hRc); (try clear hRl); (try clear hRf); omega) | omega)) (by exact fr_trans hf o2) (by
                    refine outS_at o1 ?_
                    rw [show (i + (k + 1)).toNat = i.toNat + k.toNat + 1 by (first | ((try clear o2); (try clear o1); (try clear c2); (try clear c1); (try clear hμp); (try clear x); (try clear eμp); (try clear μp); (try clear hz9); (try clear hdq); (try clear hrq); (try clear hμq); (try clear μq); (try clear ex9); (try clear ho1); (try clear hge); (try clear hD); (try clear ha); (try clear hs2); (try clear hs1); (try clear w2); (try clear w1); (try clear c14_); (try clear hqb3); (try clear hqb2); (try clear hqb); (try clear hrm2); (try clear hrm); (try clear hm9); (try clear ho); (try clear hf); (try clear hexit49); (try clear hd9); (try clear hkk); (try clear hsg); (try clear hal); (try clear h96); (try clear ha32); (try clear ha3); (try clear hRs); (try clear hRc); (try clear hRl); (try clear hRf); omega) | omega)]
                    (first | ((try clear o2); (try clear o1); (try clear c2); (try clear c1); (try clear hμp); (try clear x); (try clear eμp); (try clear μp); (try clear hz9); (try clear hrq); (try clear hμq); (try clear μq); (try clear ex9); (try clear ho1); (try clear hge); (try clear ha); (try clear hs2); (try clear hs1); (try clear w2); (try clear w1); (try clear c14_); (try clear hqb3); (try clear hqb2); (try clear hqb); (try clear hrm2); (try clear hrm); (try clear hm9); (try clear ho); (try clear hf); (try clear hk); (try clear hexit49); (try clear hd9); (try clear hkk); (try clear hsg); (try clear hal); (try clear hbp); (try clear h96); (try clear ha32); (try clear ha3); (try clear hRs); (try clear hRc); (try clear hRl); (try clear hRf); omega) | omega)) (by (first | ((try clear o2); (try clear o1); (try clear hμp); (try clear x); (try clear eμp); (try clear hz9); (try clear hdq); (try clear hrq); (try clear hμq); (try clear μq); (try clear ex9); (try clear ho1); (try clear hge); (try clear hD); (try clear ha); (try clear hs2); (try clear hs1); (try clear w2); (try clear w1); (try clear ho); (try clear hf); (try clear hk); (try clear hexit49); (try clear hd9); (try clear hkk); (try clear hsg); (try clear hal); (try clear hbp); (try clear ha32); (try clear ha3); (try clear hRs); (try clear hRc); (try clear hRl); (try clear hRf); omega) | omega)) hP hS (lv_sub hl [0, 1, 2, 3, 4, 5, 6] rfl)
set_option maxHeartbeats 4000000 in
set_option maxRecDepth 100000 in
theorem s_YputFused (l : Launch) (dC : Nat → ClassId) (dI : Nat → Nat → Nat) (cI cZ cII cIII : ClassId) (h0 sz : Nat) (μ : va_M) (q : Nat) (rm : Nat) (q2 : Nat) (rm2 : Nat) (q3 : Nat) (rm3 : Nat) (i : Int) (j : Int) (n : Int) (kk : Int) (d9 : Int) (hq : rowB q rm) (hq2 : rowB q2 rm2) (hq3 : rowB q3 rm3) (ha3 : q3 + 6 ≤ q ∨ q + 6 ≤ q3) (ha32 : q3 + 6 ≤ q2 ∨ q2 + 6 ≤ q3) (hG : rG μ q rm) (hG2 : rG μ q2 rm2) (h96 : rm2 = 96) (hbp : 0 ≤ i ∧ 0 ≤ n ∧ i + n ≤ μ q 5 ∧ 0 ≤ j ∧ j + n ≤ μ q2 5) (hal : ∀ t : Nat, (t : Int) < n → sAl (μ (q + 1) (i.toNat + t)) (μ (q2 + 1) (j.toNat + t))) (hsg : seg (μ (q + 1)) i.toNat (i + n).toNat) (hkk : kk = 513 ∨ kk = 514) (hd9 : 0 ≤ d9) (ho : outS μ q3 rm3 d9) : Met l yX0_putFused (Cond.code yX0_putFused cX0_putFused 8 none :: wsG) ({ frames := 2, cells := 0, slots := 0, locals := 35 } : Room) (va_Pc [.ref (h0 + q), .int (iZ (i)), .ref (h0 + q2), .int (iZ (j)), .int (iZ (n)), .int (iZ (kk)), .ref (h0 + q3)] (fun U => U.heap.size = sz ∧ va_P (dC, dI) vwCl (fw (sE cI cZ cII cIII h0) h0 233 μ) U.heap ∧ va_K (dC, dI) vwCl (sT cI cZ cII cIII) U ∧ xM U)) (va_Qv (fun (u : va_M) => outS u q3 rm3 d9 ∧ fr (fun x _ => x = q3 ∨ x = q3 + 1) μ u) (fun u t => va_P (dC, dI) vwCl (fw (sE cI cZ cII cIII h0) h0 233 u) t.heap ∧ va_K (dC, dI) vwCl (sT cI cZ cII cIII) t) (fA h0 233 sz)) 0 0 (fA h0 233 sz) := by
  refine Met.ofW (cc := cX0_putFused) (maxL := 8) (ret := none) (by decide) rfl ?_
  intro p e s m args below meth c s₁ B hml hv
  obtain ⟨rfl, hsz, hP, hK, hM⟩ := hv
  have hx := B.exec
  have hb := B.bytes
  have hr := B.returns
  have hts : ∀ w ∈ wsG, w.before _ s = true := hG_of (atoms_spec (ws := (Cond.code yX0_putFused cX0_putFused 8 none :: wsG)) B.pre)
  have hown : s.vm.findClass RX0 = some m.cls := findClass_of_methodNamed B.named
  have hlocks := B.notSynchronized
  subst hsz
  have hS : va_S (fA h0 233 s.heap.size) s.heap s.heap [] := va_S.rf
  have hl := lv_entry ([.ref (h0 + q), .int (iZ (i)), .ref (h0 + q2), .int (iZ (j)), .int (iZ (n)), .int (iZ (kk)), .ref (h0 + q3)]) (n := 8) (Nat.le_of_ble_eq_true rfl)
  rw [lg_entry_eq]
  generalize (lg_sl ([.ref (h0 + q), .int (iZ (i)), .ref (h0 + q2), .int (iZ (j)), .int (iZ (n)), .int (iZ (kk)), .ref (h0 + q3)]) ++ List.replicate (8 - (lg_sl ([.ref (h0 + q), .int (iZ (i)), .ref (h0 + q2), .int (iZ (j)), .int (iZ (n)), .int (iZ (kk)), .ref (h0 + q3)])).length) Slot.unset).toArray = ls at hl ⊢
  have hl : lv_has ls 8 [(0, .ref (h0 + q)), (1, .int (iZ (i))), (2, .ref (h0 + q2)), (3, .int (iZ (j))), (4, .int (iZ (n))), (5, .int (iZ (kk))), (6, .ref (h0 + q3))] := hl
  have hqb := rowB_b hq
  have hqb2 := rowB_b hq2
  have hqb3 := rowB_b hq3
  have hqf := rowB_f hq
  have hqf2 := rowB_f hq2
  have hqf3 := rowB_f hq3
  refine lv_aload hx hb dX0_putFused_0 (lv_at hl 6 rfl) ?_
  refine lv_iload hx hb dX0_putFused_2 (lv_at hl 5 rfl) ?_
  refine va_callv (va_runV (As := [.int (iZ (kk))]) (rest := []) ⟨hx, hb, hml, hown, hts⟩ (s_Rput l dC dI cI cZ cII cIII h0 s.heap.size μ (q3) (rm3) (kk) (hq3) (by exact ho.1)) (cwV 1 hts (gV_G k819 k411 k412 k3 k413) rfl rfl rfl (by decide +kernel) ⟨Nat.le_of_ble_eq_true rfl, Nat.le_of_ble_eq_true rfl⟩) ⟨fun a U g mk q => by obtain ⟨q0, q1, qP, qK, qM⟩ := q; exact ⟨q0, q1, qP, va_K.moved (u := U) (U := U.calling g mk a) (Vm.Alike.refl U.vm) qK, qM⟩, va_recv hK hP (ci := 4) (q0 := q3) rfl ((fw_get (by (first | ((try clear mk); (try clear g); (try clear U); (try clear hqf3); (try clear hqf2); (try clear hqf); (try clear hqb2); (try clear hqb); (try clear hsz); (try clear s₁); (try clear hd9); (try clear hkk); (try clear hsg); (try clear hal); (try clear hbp); (try clear h96); (try clear ha32); (try clear ha3); omega) | omega))).trans (by rw [(sE_rowO hq3)])), fun U hU hW => ⟨rfl, by rw [hU], by rw [hU]; exact hP, va_K.moved hW.alike hK, xM_warm hW hM⟩⟩ rfl rfl hl.1 rfl (lv_room (Nat.le_of_ble_eq_true rfl)) dX0_putFused_4 ⟨Nat.le_of_ble_eq_true rfl, Nat.le_of_ble_eq_true rfl⟩) hS (fun q _ h => fA_le hS.1 q h) (fA_le hS.1) (fun u9 t9 H1 locs ht9 hvm9 hw9 hB9 hz9 hk9 hS => ?_)
  obtain ⟨hP, -⟩ := hB9
  rw [ht9] at hP
  generalize H1 = H at hP hS ⊢
  obtain ⟨μ1, eμ1⟩ : ∃ x : va_M, x = u9 := ⟨_, rfl⟩
  rw [← eμ1] at hP hw9
  have hμ1 := hw9; clear hw9
  obtain ⟨c1, c2⟩ := hμ1
  obtain ⟨o1_, f1_⟩ := outS_put ho (s := kk) (by unfold vS; (first | ((try clear f1_); (try clear o1_); (try clear hμ1); (try clear x); (try clear eμ1); (try clear hz9); (try clear hsz); (try clear s₁); (try clear hd9); (try clear hsg); (try clear hal); (try clear hbp); (try clear ha32); (try clear ha3); omega) | omega)) (by rw [dl_1 hkk]; (first | ((try clear f1_); (try clear o1_); (try clear c2); (try clear c1); (try clear hμ1); (try clear x); (try clear eμ1); (try clear μ1); (try clear hz9); (try clear hqf3); (try clear hqf2); (try clear hqf); (try clear hqb3); (try clear hqb2); (try clear hqb); (try clear hsz); (try clear s₁); (try clear hkk); (try clear hsg); (try clear hal); (try clear hbp); (try clear h96); (try clear ha32); (try clear ha3); omega) | omega)) c1 c2
  rw [dl_1 hkk] at o1_
  have G1 : rG μ1 q rm := rG_fr hG (fun x y h8 h9 => f1_ _ _ (by (first | ((try clear y); (try clear f1_); (try clear o1_); (try clear hμ1); (try clear eμ1); (try clear hz9); (try clear hsz); (try clear s₁); (try clear hd9); (try clear hsg); (try clear hal); (try clear hbp); omega) | omega)))
  have G2 : rG μ1 q2 rm2 := rG_fr hG2 (fun x y h8 h9 => f1_ _ _ (by (first | ((try clear y); (try clear f1_); (try clear o1_); (try clear hμ1); (try clear eμ1); (try clear hz9); (try clear hsz); (try clear s₁); (try clear hd9); (try clear hsg); (try clear hal); (try clear hbp); (try clear ha3); omega) | omega)))
  have E1 : ∀ y, μ1 (q + 1) y = μ (q + 1) y := fun y => f1_ _ _ (by (first | ((try clear y); (try clear E1); (try clear f1_); (try clear o1_); (try clear hμ1); (try clear x); (try clear eμ1); (try clear hz9); (try clear hsz); (try clear s₁); (try clear hd9); (try clear hsg); (try clear hal); (try clear hbp); omega) | omega))
  have E2 : ∀ y, μ1 (q2 + 1) y = μ (q2 + 1) y := fun y => f1_ _ _ (by (first | ((try clear y); (try clear E2); (try clear E1); (try clear f1_); (try clear o1_); (try clear hμ1); (try clear x); (try clear eμ1); (try clear hz9); (try clear hsz); (try clear s₁); (try clear hd9); (try clear hsg); (try clear hal); (try clear hbp); (try clear ha3); omega) | omega))
  have E5 : μ1 q 5 = μ q 5 := f1_ _ _ (by (first | ((try clear E5); (try clear E2); (try clear E1); (try clear f1_); (try clear o1_); (try clear hμ1); (try clear x); (try clear eμ1); (try clear hz9); (try clear hsz); (try clear s₁); (try clear hd9); (try clear hsg); (try clear hal); (try clear hbp); omega) | omega))
  have E6 : μ1 q2 5 = μ q2 5 := f1_ _ _ (by (first | ((try clear E6); (try clear E5); (try clear E2); (try clear E1); (try clear f1_); (try clear o1_); (try clear hμ1); (try clear x); (try clear eμ1); (try clear hz9); (try clear hsz); (try clear s₁); (try clear hd9); (try clear hsg); (try clear hal); (try clear hbp); (try clear ha3); omega) | omega))
  refine lv_iconst (v := iZ 0) hx hb dX0_putFused_7 rfl ?_
  refine lv_istore (lv' := [(7, .int (iZ (0))), (0, .ref (h0 + q)), (1, .int (iZ (i))), (2, .ref (h0 + q2)), (3, .int (iZ (j))), (4, .int (iZ (n))), (5, .int (iZ (kk))), (6, .ref (h0 + q3))]) hx hb dX0_putFused_8 hl (by decide) rfl (fun ls hl => ?_)
  refine LX0_putFused_10 hx hb hml hown hts hK hM (Nat.le_of_ble_eq_true rfl) (Nat.le_of_ble_eq_true rfl) (Nat.le_of_ble_eq_true rfl) (Nat.le_of_ble_eq_true rfl) (μ1) (q) (rm) (q2) (rm2) (q3) (rm3) (i) (j) (n) (kk) (d9) (by assumption) (by assumption) (by assumption) (by assumption) (by assumption) (by exact G1) (by exact G2) (by assumption) (by (first | ((try clear E2); (try clear E1); (try clear f1_); (try clear o1_); (try clear c2); (try clear c1); (try clear hμ1); (try clear x); (try clear eμ1); (try clear hz9); (try clear hqf3); (try clear hqf2); (try clear hqf); (try clear hqb3); (try clear hqb2); (try clear hqb); (try clear hsz); (try clear s₁); (try clear hd9); (try clear hkk); (try clear hsg); (try clear hal); (try clear h96); (try clear ha32); (try clear ha3); omega) | omega)) (by intro t ht; rw [E1, E2]; exact hal t ht) (by rw [funext E1]; exact hsg) (by assumption) (by assumption) ?_ _ (0) μ1 H locs ls (by (first | ((try clear E6); (try clear E5); (try clear E2); (try clear E1); (try clear f1_); (try clear o1_); (try clear c2); (try clear c1); (try clear hμ1); (try clear x); (try clear eμ1); (try clear hz9); (try clear hqf3); (try clear hqf2); (try clear hqf); (try clear hqb3); (try clear hqb2); (try clear hqb); (try clear hsz); (try clear s₁); (try clear hd9); (try clear hkk); (try clear hsg); (try clear hal); (try clear h96); (try clear ha32); (try clear ha3); omega) | omega)) (by exact fr_rfl) (by
            refine outS_at o1_ ?_
            rw [Int.add_zero]; (first | ((try clear E6); (try clear E5); (try clear E2); (try clear E1); (try clear f1_); (try clear o1_); (try clear c2); (try clear c1); (try clear hμ1); (try clear x); (try clear eμ1); (try clear hz9); (try clear hqf3); (try clear hqf2); (try clear hqf); (try clear hqb3); (try clear hqb2); (try clear hqb); (try clear hsz); (try clear s₁); (try clear hd9); (try clear hkk); (try clear hsg); (try clear hal); (try clear hbp); (try clear h96); (try clear ha32); (try clear ha3); omega) | omega)) (Nat.lt_succ_self _) hP hS (lv_sub hl [0, 7, 5, 4, 3, 2, 1] rfl)
  · intro k_1 μ1_ H locs ls q1_1 q2_1 hP hS hl
    have hl : lv_has ls 8 [(6, .ref (h0 + q3))] := hl
    have Q1 := q1_1
    have Q2 := q2_1
    refine lv_aload hx hb dX0_putFused_49 (lv_at hl 0 rfl) ?_
    refine lv_sipush (v := iZ 515) hx hb dX0_putFused_51 rfl ?_
    refine va_callv (va_runV (As := [.int (iZ (515))]) (rest := []) ⟨hx, hb, hml, hown, hts⟩ (s_Rput l dC dI cI cZ cII cIII h0 H.size μ1_ (q3) (rm3) (515) (hq3) (by exact Q2.1)) (cwV 1 hts (gV_G k819 k411 k412 k3 k413) rfl rfl rfl (by decide +kernel) ⟨Nat.le_of_ble_eq_true rfl, Nat.le_of_ble_eq_true rfl⟩) ⟨fun a U g mk q => by obtain ⟨q0, q1, qP, qK, qM⟩ := q; exact ⟨q0, q1, qP, va_K.moved (u := U) (U := U.calling g mk a) (Vm.Alike.refl U.vm) qK, qM⟩, va_recv hK hP (ci := 4) (q0 := q3) rfl ((fw_get (by (first | ((try clear mk); (try clear g); (try clear U); (try clear Q2); (try clear Q1); (try clear q2_1); (try clear q1_1); (try clear μ1_); (try clear k_1); (try clear E6); (try clear E5); (try clear E2); (try clear E1); (try clear f1_); (try clear o1_); (try clear c2); (try clear c1); (try clear hμ1); (try clear x); (try clear eμ1); (try clear hz9); (try clear hqf3); (try clear hqf2); (try clear hqf); (try clear hqb2); (try clear hqb); (try clear hsz); (try clear s₁); (try clear hd9); (try clear hkk); (try clear hsg); (try clear hal); (try clear hbp); (try clear h96); (try clear ha32); (try clear ha3); omega) | omega))).trans (by rw [(sE_rowO hq3)])), fun U hU hW => ⟨rfl, by rw [hU], by rw [hU]; exact hP, va_K.moved hW.alike hK, xM_warm hW hM⟩⟩ rfl rfl hl.1 rfl (lv_room (Nat.le_of_ble_eq_true rfl)) dX0_putFused_54 ⟨Nat.le_of_ble_eq_true rfl, Nat.le_of_ble_eq_true rfl⟩) hS (fun q _ h => fA_le hS.1 q h) (fA_le hS.1) (fun u9 t9 H1 locs ht9 hvm9 hw9 hB9 hz9 hk9 hS => ?_)
    obtain ⟨hP, -⟩ := hB9
    rw [ht9] at hP
    generalize H1 = H at hP hS ⊢
    obtain ⟨μ3, eμ3⟩ : ∃ x : va_M, x = u9 := ⟨_, rfl⟩
    rw [← eμ3] at hP hw9
    have hμ3 := hw9; clear hw9
    obtain ⟨c1, c2⟩ := hμ3
    obtain ⟨o3_, f3_⟩ := outS_put Q2 (s := 515) (by unfold vS; (first | ((try clear f3_); (try clear o3_); (try clear c2); (try clear c1); (try clear hμ3); (try clear x); (try clear eμ3); (try clear μ3); (try clear hz9); (try clear Q2); (try clear Q1); (try clear q2_1); (try clear q1_1); (try clear μ1_); (try clear k_1); (try clear E6); (try clear E5); (try clear E2); (try clear E1); (try clear f1_); (try clear o1_); (try clear hμ1); (try clear eμ1); (try clear hqf3); (try clear hqf2); (try clear hqf); (try clear hqb3); (try clear hqb2); (try clear hqb); (try clear hsz); (try clear s₁); (try clear hd9); (try clear hkk); (try clear hsg); (try clear hal); (try clear hbp); (try clear h96); (try clear ha32); (try clear ha3); omega) | omega)) (by rw [dl_m]; (first | ((try clear f3_); (try clear o3_); (try clear c2); (try clear c1); (try clear hμ3); (try clear x); (try clear eμ3); (try clear μ3); (try clear hz9); (try clear Q2); (try clear Q1); (try clear q2_1); (try clear q1_1); (try clear μ1_); (try clear k_1); (try clear E6); (try clear E5); (try clear E2); (try clear E1); (try clear f1_); (try clear o1_); (try clear hμ1); (try clear eμ1); (try clear hqf3); (try clear hqf2); (try clear hqf); (try clear hqb3); (try clear hqb2); (try clear hqb); (try clear hsz); (try clear s₁); (try clear hkk); (try clear hsg); (try clear hal); (try clear hbp); (try clear h96); (try clear ha32); (try clear ha3); omega) | omega)) c1 c2
    rw [dl_m] at o3_
    exact W.vret hx hb hr (fun t9 ht9 hW9 => ⟨⟨μ3, rfl, (by
                try dsimp only
                exact ⟨outS_at o3_ (by (first | ((try clear f3_); (try clear o3_); (try clear c2); (try clear c1); (try clear hμ3); (try clear x); (try clear eμ3); (try clear μ3); (try clear hz9); (try clear Q2); (try clear Q1); (try clear q2_1); (try clear q1_1); (try clear μ1_); (try clear k_1); (try clear E6); (try clear E5); (try clear E2); (try clear E1); (try clear f1_); (try clear o1_); (try clear hμ1); (try clear eμ1); (try clear hqf3); (try clear hqf2); (try clear hqf); (try clear hqb3); (try clear hqb2); (try clear hqb); (try clear hsz); (try clear s₁); (try clear hd9); (try clear hkk); (try clear hsg); (try clear hal); (try clear hbp); (try clear h96); (try clear ha32); (try clear ha3); omega) | omega)), fr_trans f1_ (fr_trans Q1 f3_)⟩), by rw [ht9]; exact hP, va_K.moved hW9.alike hK⟩, hS.F ht9⟩) hS.2.2 dX0_putFused_57
set_option maxHeartbeats 4000000 in
set_option maxRecDepth 100000 in
theorem s_YleaveOut (l : Launch) (dC : Nat → ClassId) (dI : Nat → Nat → Nat) (cI cZ cII cIII : ClassId) (h0 sz : Nat) (μ : va_M) (q : Nat) (rm : Nat) (q2 : Nat) (rm2 : Nat) (q3 : Nat) (rm3 : Nat) (wy : Int) (hq : rowB q rm) (hq2 : rowB q2 rm2) (hq3 : rowB q3 rm3) (ha3 : apart q3 q) (ha32 : apart q3 q2) (hG : rG μ q rm) (hG2 : rG μ q2 rm2) (h96 : rm2 = 96) (hbp : bS μ q q2 q3 rm3) (hw : (wy = 4 ∧ μ 41 4 < μ q 5 ∧ μ (q + 1) (μ 41 4).toNat ≠ 515) ∨ (wy = 5 ∧ μ 41 5 < μ q2 5 ∧ μ (q2 + 1) (μ 41 5).toNat ≠ 515)) : Met l yX0_leaveOut (Cond.code yX0_leaveOut cX0_leaveOut 8 none :: wsG) ({ frames := 3, cells := 0, slots := 0, locals := 59 } : Room) (va_Pc [.ref (h0 + 41), .ref (h0 + q), .ref (h0 + q2), .int (iZ (wy)), .ref (h0 + q3)] (fun U => U.heap.size = sz ∧ va_P (dC, dI) vwCl (fw (sE cI cZ cII cIII h0) h0 233 μ) U.heap ∧ va_K (dC, dI) vwCl (sT cI cZ cII cIII) U ∧ xM U)) (va_Qv (fun (u : va_M) => fr (BQ q3) μ u ∧ bS u q q2 q3 rm3 ∧ μ 41 4 + μ 41 5 + 1 ≤ u 41 4 + u 41 5) (fun u t => va_P (dC, dI) vwCl (fw (sE cI cZ cII cIII h0) h0 233 u) t.heap ∧ va_K (dC, dI) vwCl (sT cI cZ cII cIII) t) (fA h0 233 sz)) 0 0 (fA h0 233 sz) := by
  refine Met.ofW (cc := cX0_leaveOut) (maxL := 8) (ret := none) (by decide) rfl ?_
  intro p e s m args below meth c s₁ B hml hv
  obtain ⟨rfl, hsz, hP, hK, hM⟩ := hv
  have hx := B.exec
  have hb := B.bytes
  have hr := B.returns
  have hts : ∀ w ∈ wsG, w.before _ s = true := hG_of (atoms_spec (ws := (Cond.code yX0_leaveOut cX0_leaveOut 8 none :: wsG)) B.pre)
  have hown : s.vm.findClass RX0 = some m.cls := findClass_of_methodNamed B.named
  have hlocks := B.notSynchronized
  subst hsz
  have hS : va_S (fA h0 233 s.heap.size) s.heap s.heap [] := va_S.rf
  have hl := lv_entry ([.ref (h0 + 41), .ref (h0 + q), .ref (h0 + q2), .int (iZ (wy)), .ref (h0 + q3)]) (n := 8) (Nat.le_of_ble_eq_true rfl)
  rw [lg_entry_eq]
  generalize (lg_sl ([.ref (h0 + 41), .ref (h0 + q), .ref (h0 + q2), .int (iZ (wy)), .ref (h0 + q3)]) ++ List.replicate (8 - (lg_sl ([.ref (h0 + 41), .ref (h0 + q), .ref (h0 + q2), .int (iZ (wy)), .ref (h0 + q3)])).length) Slot.unset).toArray = ls at hl ⊢
  have hl : lv_has ls 8 [(0, .ref (h0 + 41)), (1, .ref (h0 + q)), (2, .ref (h0 + q2)), (3, .int (iZ (wy))), (4, .ref (h0 + q3))] := hl
  have hqb := rowB_c hq
  have hqb2 := rowB_c hq2
  have hqb3 := rowB_c hq3
  obtain ⟨hv1, hg1, ho1⟩ := hbp
  have hrm := rG_rc hq hG
  have hrm2 := rG_rc hq2 hG2
  have hv0 := hv1.1
  have hgb := gI_b (μ 41 6)
  have hg2 : 0 ≤ μ 41 6 ∧ μ 41 6 ≤ 5 := by unfold gOK at hg1; (first | ((try clear hg2); (try clear hgb); (try clear hv0); (try clear hrm2); (try clear hrm); (try clear ho1); (try clear hv1); (try clear hqb3); (try clear hqb2); (try clear hqb); (try clear hsz); (try clear s₁); (try clear hw); (try clear h96); omega) | omega)
  have hDn := ((rG_bal hG).2 (μ 41 4).toNat (by (first | ((try clear hDn); (try clear hg2); (try clear hgb); (try clear hrm2); (try clear hrm); (try clear ho1); (try clear hg1); (try clear hv1); (try clear hqb3); (try clear hqb2); (try clear hqb); (try clear hsz); (try clear s₁); (try clear hw); (try clear h96); omega) | omega))).1
  have ho2 := ho1.1
  refine lv_iload_n hx hb dX0_leaveOut_0 rfl (lv_at hl 3 rfl) ?_
  refine lv_iconst (v := iZ 4) hx hb dX0_leaveOut_1 rfl ?_
  refine fz_icmp_ne (tgt := 9) (by constructor <;> (first | ((try clear ho2); (try clear hDn); (try clear hg2); (try clear hgb); (try clear hv0); (try clear hrm2); (try clear hrm); (try clear ho1); (try clear hg1); (try clear hv1); (try clear hqb3); (try clear hqb2); (try clear hqb); (try clear hsz); (try clear s₁); (try clear h96); omega) | omega)) (by decide) hx hb dX0_leaveOut_2 (by decide) (fun c2_ => ?_) (fun c2_ => ?_)
  · have hwc : wy = 5 ∧ μ 41 5 < μ q2 5 ∧ μ (q2 + 1) (μ 41 5).toNat ≠ 515 := by
      rcases hw with h | h
      · exact absurd h.1 (by (first | ((try clear hwc); (try clear ho2); (try clear hDn); (try clear hg2); (try clear hgb); (try clear hv0); (try clear hrm2); (try clear hrm); (try clear ho1); (try clear hg1); (try clear hv1); (try clear hqb3); (try clear hqb2); (try clear hqb); (try clear hsz); (try clear s₁); (try clear hw); (try clear h96); omega) | omega))
      · exact h
    obtain ⟨hw5, hwa⟩ := hwc
    have hgw : gOK wy := by unfold gOK; (first | ((try clear hwa); (try clear hwc); (try clear c2_); (try clear ho2); (try clear hDn); (try clear hg2); (try clear hgb); (try clear hv0); (try clear hrm2); (try clear hrm); (try clear ho1); (try clear hg1); (try clear hv1); (try clear hqb3); (try clear hqb2); (try clear hqb); (try clear hsz); (try clear s₁); (try clear hw); (try clear h96); omega) | omega)
    clear hw
    refine lv_aload_n hx hb dX0_leaveOut_9 rfl (lv_at hl 2 rfl) ?_
    refine lv_astore (lv' := [(5, .ref (h0 + q2)), (0, .ref (h0 + 41)), (1, .ref (h0 + q)), (2, .ref (h0 + q2)), (3, .int (iZ (wy))), (4, .ref (h0 + q3))]) hx hb dX0_leaveOut_10 hl (by decide) rfl (fun ls hl => ?_)
    refine lv_iload_n hx hb dX0_leaveOut_12 rfl (lv_at hl 4 rfl) ?_
    refine lv_iconst (v := iZ 4) hx hb dX0_leaveOut_13 rfl ?_
    refine fz_icmp_ne (tgt := 24) (by constructor <;> (first | ((try clear hwa); (try clear hwc); (try clear c2_); (try clear ho2); (try clear hDn); (try clear hg2); (try clear hgb); (try clear hv0); (try clear hrm2); (try clear hrm); (try clear ho1); (try clear hg1); (try clear hv1); (try clear hqb3); (try clear hqb2); (try clear hqb); (try clear hsz); (try clear s₁); (try clear hw); (try clear h96); omega) | omega)) (by decide) hx hb dX0_leaveOut_14 (by decide) (fun c14_ => ?_) (fun h9 => (by (first | ((try clear c14_); (try clear hwa); (try clear hwc); (try clear c2_); (try clear ho2); (try clear hDn); (try clear hg2); (try clear hgb); (try clear hv0); (try clear hrm2); (try clear hrm); (try clear ho1); (try clear hg1); (try clear hv1); (try clear hqb3); (try clear hqb2); (try clear hqb); (try clear hsz); (try clear s₁); (try clear hw); (try clear h96); omega) | omega)))
    refine lv_aload_n hx hb dX0_leaveOut_24 rfl (lv_at hl 1 rfl) ?_
    refine fz_get (D := (dC, dI)) (ci := 0) (v := .int (iZ (μ 41 5))) (C := RX0) (T := TX0) (N := 7) hx hb hts inG0 hown hK hP (k := 41) (by decide) (F := (sF41 h0)) sE_41 rfl 5 (by decide) (hts _ k187) (fun _ h9 => h9) rfl dX0_leaveOut_25 ?_
    refine lv_istore (lv' := [(6, .int (iZ (μ 41 5))), (5, .ref (h0 + q2)), (0, .ref (h0 + 41)), (1, .ref (h0 + q)), (2, .ref (h0 + q2)), (3, .int (iZ (wy))), (4, .ref (h0 + q3))]) hx hb dX0_leaveOut_28 hl (by decide) rfl (fun ls hl => ?_)
    obtain ⟨n1_, n2_, n3_⟩ := vis_5 hG2 hv1 hwa.1 hwa.2
    have hsq := hG2.1 (μ 41 5).toNat
    have hsgm := it_sg hG2 (by (first | ((try clear hsgm); (try clear hsq); (try clear n3_); (try clear n2_); (try clear n1_); (try clear c14_); (try clear hwa); (try clear hw5); (try clear hwc); (try clear c2_); (try clear ho2); (try clear hDn); (try clear hg2); (try clear hgb); (try clear hrm2); (try clear hrm); (try clear ho1); (try clear hg1); (try clear hv1); (try clear hqb3); (try clear hqb2); (try clear hqb); (try clear hsz); (try clear s₁); (try clear hw); (try clear h96); omega) | omega)) hwa.1 hwa.2
    refine lv_aload hx hb dX0_leaveOut_30 (lv_at hl 1 rfl) ?_
    refine lv_iload hx hb dX0_leaveOut_32 (lv_at hl 0 rfl) ?_
    refine va_calli (va_runV (As := [.int (iZ (μ 41 5))]) (rest := []) ⟨hx, hb, hml, hown, hts⟩ (s_Rafter l dC dI cI cZ cII cIII h0 s.heap.size μ (q2) (rm2) (μ 41 5) (hq2) (by (first | ((try clear hsgm); (try clear hsq); (try clear n3_); (try clear n2_); (try clear n1_); (try clear c14_); (try clear hw5); (try clear hwc); (try clear c2_); (try clear ho2); (try clear hDn); (try clear hg2); (try clear hgb); (try clear hrm); (try clear ho1); (try clear hg1); (try clear hv1); (try clear hqb3); (try clear hqb2); (try clear hqb); (try clear hsz); (try clear s₁); (try clear hw); omega) | omega)) (by constructor <;> (first | ((try clear hsgm); (try clear hsq); (try clear n3_); (try clear c14_); (try clear hwa); (try clear hw5); (try clear hwc); (try clear c2_); (try clear ho2); (try clear hDn); (try clear hg2); (try clear hgb); (try clear hrm); (try clear ho1); (try clear hg1); (try clear hv1); (try clear hqb3); (try clear hqb2); (try clear hqb); (try clear hsz); (try clear s₁); (try clear hw); omega) | omega))) (cwV 1 hts (gV_G k791 k438 k439 k3 k440) rfl rfl rfl (by decide +kernel) ⟨Nat.le_of_ble_eq_true rfl, Nat.le_of_ble_eq_true rfl⟩) ⟨fun a U g mk q => by obtain ⟨q0, q1, qP, qK, qM⟩ := q; exact ⟨q0, q1, qP, va_K.moved (u := U) (U := U.calling g mk a) (Vm.Alike.refl U.vm) qK, qM⟩, va_recv hK hP (ci := 4) (q0 := q2) rfl ((fw_get (by (first | ((try clear mk); (try clear g); (try clear U); (try clear hsgm); (try clear hsq); (try clear n3_); (try clear n2_); (try clear n1_); (try clear c14_); (try clear hwa); (try clear hw5); (try clear hwc); (try clear c2_); (try clear ho2); (try clear hDn); (try clear hg2); (try clear hgb); (try clear hv0); (try clear hrm2); (try clear hrm); (try clear ho1); (try clear hg1); (try clear hv1); (try clear hqb3); (try clear hqb); (try clear hsz); (try clear s₁); (try clear hw); (try clear h96); omega) | omega))).trans (by rw [(sE_rowO hq2)])), fun U hU hW => ⟨rfl, by rw [hU], by rw [hU]; exact hP, va_K.moved hW.alike hK, xM_warm hW hM⟩⟩ rfl rfl hl.1 rfl (lv_room (Nat.le_of_ble_eq_true rfl)) dX0_leaveOut_34 ⟨Nat.le_of_ble_eq_true rfl, Nat.le_of_ble_eq_true rfl⟩) hS (fun q _ h => fA_le hS.1 q h) (fA_le hS.1) (fun r9 u9 t9 H1 locs ht9 hvm9 hw9 hB9 hz9 hk9 hS => ?_)
    obtain ⟨μa, ra⟩ := u9
    obtain ⟨hP, -⟩ := hB9
    rw [ht9] at hP
    generalize H1 = H at hP hS ⊢
    obtain ⟨e9, hw9⟩ := hw9
    have e9 : r9 = iZ ra := e9
    subst e9
    simp only at hP hw9
    have hμa := hw9; clear hw9
    rw [hμa.1] at hP; have hμa := hμa.2
    have hra := hμa
    rw [← hra] at n2_ n3_ hsgm
    refine lv_istore (lv' := [(7, .int (iZ (ra))), (6, .int (iZ (μ 41 5))), (5, .ref (h0 + q2)), (0, .ref (h0 + 41)), (1, .ref (h0 + q)), (2, .ref (h0 + q2)), (3, .int (iZ (wy))), (4, .ref (h0 + q3))]) hx hb dX0_leaveOut_37 hl (by decide) rfl (fun ls hl => ?_)
    refine lv_aload_n hx hb dX0_leaveOut_39 rfl (lv_at hl 3 rfl) ?_
    refine fz_get (D := (dC, dI)) (ci := 0) (v := .int (iZ (μ 41 6))) (C := RX0) (T := TX0) (N := 7) hx hb hts inG0 hown hK hP (k := 41) (by decide) (F := (sF41 h0)) sE_41 rfl 6 (by decide) (hts _ k188) (fun _ h9 => h9) rfl dX0_leaveOut_40 ?_
    refine fz_if_ne (tgt := 73) (by constructor <;> (first | ((try clear hra); (try clear hμa); (try clear μa); (try clear hz9); (try clear hsgm); (try clear hsq); (try clear n3_); (try clear n2_); (try clear n1_); (try clear c14_); (try clear hwa); (try clear hw5); (try clear hwc); (try clear c2_); (try clear ho2); (try clear hDn); (try clear hgb); (try clear hv0); (try clear hrm2); (try clear hrm); (try clear ho1); (try clear hg1); (try clear hv1); (try clear hqb3); (try clear hqb2); (try clear hqb); (try clear hsz); (try clear s₁); (try clear hw); (try clear h96); omega) | omega)) hx hb dX0_leaveOut_43 (by decide) (fun c43_ => ?_) (fun c43_ => ?_)
    · have SO : outS μ q3 rm3 (Dp (μ (q + 1)) (μ 41 4).toNat + gI (μ 41 6)) ∧ fr (BQ q3) μ μ ∧ gOK (μ 41 6) ∧ μ 41 4 = μ 41 4 ∧ μ 41 5 = μ 41 5 := by
        exact ⟨ho1, fr_rfl, hg1, rfl, rfl⟩
      obtain ⟨SO1, SO2, SO3, SO4, SO5⟩ := SO
      have hgb2 := gI_b (μ 41 6)
      have XA : ag μ μ q := ag_BQ hq ha3 SO2
      have XA2 : ag μ μ q2 := ag_BQ hq2 ha32 SO2
      refine lv_aload hx hb dX0_leaveOut_73 (lv_at hl 7 rfl) ?_
      refine lv_aload hx hb dX0_leaveOut_75 (lv_at hl 2 rfl) ?_
      refine lv_iload hx hb dX0_leaveOut_77 (lv_at hl 1 rfl) ?_
      refine lv_iload hx hb dX0_leaveOut_79 (lv_at hl 0 rfl) ?_
      refine va_callv (va_runV (As := [.ref (h0 + q2), .int (iZ (μ 41 5)), .int (iZ (ra))]) (rest := []) ⟨hx, hb, hml, hown, hts⟩ (s_RputRange l dC dI cI cZ cII cIII h0 H.size μ (q3) (rm3) (q2) (rm2) (μ 41 5) (ra) (Dp (μ (q + 1)) (μ 41 4).toNat + gI (μ 41 6)) (hq3) (hq2) (by exact ha32) (by exact rG_fr hG2 XA2) (by rw [ag_E XA2]; exact hsgm) (by
                    have e5 := ag_5 XA2
                    (first | ((try clear e5); (try clear hgb2); (try clear SO5); (try clear SO4); (try clear SO3); (try clear SO2); (try clear SO1); (try clear SO); (try clear c43_); (try clear hra); (try clear hμa); (try clear hz9); (try clear hsgm); (try clear hsq); (try clear n3_); (try clear c14_); (try clear hwa); (try clear hw5); (try clear hwc); (try clear c2_); (try clear ho2); (try clear hDn); (try clear hg2); (try clear hgb); (try clear hrm2); (try clear hrm); (try clear ho1); (try clear hg1); (try clear hv1); (try clear hqb3); (try clear hqb2); (try clear hqb); (try clear hsz); (try clear s₁); (try clear hw); (try clear h96); omega) | omega)) (by (first | ((try clear e5); (try clear hgb2); (try clear SO5); (try clear SO4); (try clear SO3); (try clear SO2); (try clear SO1); (try clear SO); (try clear c43_); (try clear hra); (try clear hμa); (try clear μa); (try clear hz9); (try clear hsgm); (try clear hsq); (try clear n3_); (try clear n2_); (try clear n1_); (try clear c14_); (try clear hwa); (try clear hw5); (try clear hwc); (try clear c2_); (try clear ho2); (try clear hg2); (try clear hv0); (try clear hrm2); (try clear hrm); (try clear ho1); (try clear hg1); (try clear hv1); (try clear hqb3); (try clear hqb2); (try clear hqb); (try clear hsz); (try clear s₁); (try clear hw); (try clear h96); omega) | omega)) (by exact SO1)) (cwV 3 hts (gV_G k824 k825 k826 k3 k827) rfl rfl rfl (by decide +kernel) ⟨Nat.le_of_ble_eq_true rfl, Nat.le_of_ble_eq_true rfl⟩) ⟨fun a U g mk q => by obtain ⟨q0, q1, qP, qK, qM⟩ := q; exact ⟨q0, q1, qP, va_K.moved (u := U) (U := U.calling g mk a) (Vm.Alike.refl U.vm) qK, qM⟩, va_recv hK hP (ci := 4) (q0 := q3) rfl ((fw_get (by (first | ((try clear mk); (try clear g); (try clear U); (try clear e5); (try clear hgb2); (try clear SO5); (try clear SO4); (try clear SO3); (try clear SO2); (try clear SO1); (try clear SO); (try clear c43_); (try clear hra); (try clear hμa); (try clear μa); (try clear hz9); (try clear hsgm); (try clear hsq); (try clear n3_); (try clear n2_); (try clear n1_); (try clear c14_); (try clear hwa); (try clear hw5); (try clear hwc); (try clear c2_); (try clear ho2); (try clear hDn); (try clear hg2); (try clear hgb); (try clear hv0); (try clear hrm2); (try clear hrm); (try clear ho1); (try clear hg1); (try clear hv1); (try clear hqb2); (try clear hqb); (try clear hsz); (try clear s₁); (try clear hw); (try clear h96); omega) | omega))).trans (by rw [(sE_rowO hq3)])), fun U hU hW => ⟨rfl, by rw [hU], by rw [hU]; exact hP, va_K.moved hW.alike hK, xM_warm hW hM⟩⟩ rfl rfl hl.1 rfl (lv_room (Nat.le_of_ble_eq_true rfl)) dX0_leaveOut_81 ⟨Nat.le_of_ble_eq_true rfl, Nat.le_of_ble_eq_true rfl⟩) hS (fun q _ h => fA_le hS.1 q h) (fA_le hS.1) (fun u9 t9 H1 locs ht9 hvm9 hw9 hB9 hz9 hk9 hS => ?_)
      obtain ⟨hP, -⟩ := hB9
      rw [ht9] at hP
      generalize H1 = H at hP hS ⊢
      obtain ⟨μr, eμr⟩ : ∃ x : va_M, x = u9 := ⟨_, rfl⟩
      rw [← eμr] at hP hw9
      have hμr := hw9; clear hw9
      obtain ⟨o4_, f4_⟩ := hμr
      have F4 : fr (BQ q3) μ μr := fr_trans SO2 (fr_mono f4_ (fun x y h => Or.inl h))
      have r4 : μr 41 4 = μ 41 4 := (f4_ _ _ (n41 hq3)).trans SO4
      have r5 : μr 41 5 = μ 41 5 := (f4_ _ _ (n41 hq3)).trans SO5
      have r6 := f4_ 41 6 (n41 hq3)
      refine lv_iload_n hx hb dX0_leaveOut_84 rfl (lv_at hl 6 rfl) ?_
      refine lv_iconst (v := iZ 4) hx hb dX0_leaveOut_85 rfl ?_
      refine fz_icmp_ne (tgt := 98) (by constructor <;> (first | ((try clear r6); (try clear r5); (try clear r4); (try clear f4_); (try clear o4_); (try clear hμr); (try clear x); (try clear eμr); (try clear hgb2); (try clear SO5); (try clear SO4); (try clear SO3); (try clear SO2); (try clear SO1); (try clear SO); (try clear c43_); (try clear hra); (try clear hμa); (try clear μa); (try clear hz9); (try clear hsgm); (try clear hsq); (try clear n3_); (try clear n2_); (try clear n1_); (try clear c14_); (try clear hwa); (try clear hwc); (try clear c2_); (try clear ho2); (try clear hDn); (try clear hg2); (try clear hgb); (try clear hv0); (try clear hrm2); (try clear hrm); (try clear ho1); (try clear hg1); (try clear hv1); (try clear hqb3); (try clear hqb2); (try clear hqb); (try clear hsz); (try clear s₁); (try clear hw); (try clear h96); omega) | omega)) (by decide) hx hb dX0_leaveOut_86 (by decide) (fun c86_ => ?_) (fun h9 => (by (first | ((try clear c86_); (try clear r6); (try clear r5); (try clear r4); (try clear f4_); (try clear o4_); (try clear hμr); (try clear x); (try clear eμr); (try clear hgb2); (try clear SO5); (try clear SO4); (try clear SO3); (try clear SO2); (try clear SO1); (try clear SO); (try clear c43_); (try clear hra); (try clear hμa); (try clear μa); (try clear hz9); (try clear hsgm); (try clear hsq); (try clear n3_); (try clear n2_); (try clear n1_); (try clear c14_); (try clear hwa); (try clear hwc); (try clear c2_); (try clear ho2); (try clear hDn); (try clear hg2); (try clear hgb); (try clear hv0); (try clear hrm2); (try clear hrm); (try clear ho1); (try clear hg1); (try clear hv1); (try clear hqb3); (try clear hqb2); (try clear hqb); (try clear hsz); (try clear s₁); (try clear hw); (try clear h96); omega) | omega)))
      refine lv_aload_n hx hb dX0_leaveOut_98 rfl (lv_at hl 3 rfl) ?_
      refine lv_iload hx hb dX0_leaveOut_99 (lv_at hl 0 rfl) ?_
      refine fz_put (D := (dC, dI)) (ci := 0) (ty := .int) (z := ra) (C := RX0) (T := TX0) (N := 7) hx hb hts inG0 tyX0 tyX0_ok nmX0 hown hK hP fA_in hS (k := 41) (by decide) (F := (sF41 h0)) sE_41 rfl 5 (by decide) (hts _ k187) (fun _ h9 => h9) rfl (by decide +kernel) rfl rfl (fun _ => Nat.le_of_ble_eq_true rfl) (fun _ _ => rfl) dX0_leaveOut_101 (fun H locs hP hS => ?_)
      obtain ⟨μ1, eμ1⟩ : ∃ x : va_M, x = uz μr 41 5 (ra) := ⟨_, rfl⟩
      rw [← eμ1] at hP
      exact W.vret hx hb hr (fun t9 ht9 hW9 => ⟨⟨μ1, rfl, (by
                    try dsimp only
                    have F5 : fr (BQ q3) μ μ1 := by rw [eμ1]; exact fr_uz F4 (Or.inr ⟨rfl, by decide, by decide⟩)
                    have XB : ag μ μ1 q := ag_BQ hq ha3 F5
                    have XB2 : ag μ μ1 q2 := ag_BQ hq2 ha32 F5
                    have e6 := r6
                    rw [← show μ1 41 6 = μr 41 6 by rw [eμ1, uz_n (by decide)]] at e6
                    have A4 : μ1 41 4 = μ 41 4 := by rw [eμ1, uz_n (by decide)]; exact r4
                    have A5 : μ1 41 5 = ra := by rw [eμ1, uz_s]
                    refine ⟨F5, ⟨?_, by rw [e6]; exact SO3, ?_⟩, ?_⟩
                    · rw [vis_eq XB XB2, A4, A5]
                      exact n3_
                    · rw [e6, ag_E XB, A4]
                      refine outS_at (of_w hq3 rfl o4_ (by rw [eμ1])) ?_
                      rfl
                    · rw [A4, A5]
                      (first | ((try clear A4); (try clear e6); (try clear x); (try clear eμ1); (try clear c86_); (try clear r6); (try clear r4); (try clear f4_); (try clear o4_); (try clear hμr); (try clear eμr); (try clear hgb2); (try clear SO5); (try clear SO4); (try clear SO3); (try clear SO2); (try clear SO1); (try clear SO); (try clear c43_); (try clear hra); (try clear hμa); (try clear hz9); (try clear hsgm); (try clear hsq); (try clear n3_); (try clear n2_); (try clear c14_); (try clear hwa); (try clear hw5); (try clear hwc); (try clear c2_); (try clear ho2); (try clear hDn); (try clear hg2); (try clear hgb); (try clear hv0); (try clear hrm2); (try clear hrm); (try clear ho1); (try clear hg1); (try clear hv1); (try clear hqb3); (try clear hqb2); (try clear hqb); (try clear hsz); (try clear s₁); (try clear hw); (try clear h96); omega) | omega)), by rw [ht9]; exact hP, va_K.moved hW9.alike hK⟩, hS.F ht9⟩) hS.2.2 dX0_leaveOut_104
    · refine lv_aload hx hb dX0_leaveOut_46 (lv_at hl 2 rfl) ?_
      refine fz_get (D := (dC, dI)) (ci := 4) (v := .ref (h0 + (q2 + 1))) (C := RX4) (T := TX4) (N := 8) hx hb hts inG4 hown hK hP (k := q2) (by (first | ((try clear c43_); (try clear hra); (try clear hμa); (try clear μa); (try clear hz9); (try clear hsgm); (try clear hsq); (try clear n3_); (try clear n2_); (try clear n1_); (try clear c14_); (try clear hwa); (try clear hw5); (try clear hwc); (try clear c2_); (try clear ho2); (try clear hDn); (try clear hg2); (try clear hgb); (try clear hv0); (try clear hrm2); (try clear hrm); (try clear ho1); (try clear hg1); (try clear hv1); (try clear hqb3); (try clear hqb); (try clear hsz); (try clear s₁); (try clear hw); (try clear h96); omega) | omega)) (F := (sRF h0 q2)) (sE_rowO hq2) rfl 0 (by decide) (hts _ k80) (fun _ h9 => h9) rfl dX0_leaveOut_48 ?_
      refine lv_iload hx hb dX0_leaveOut_51 (lv_at hl 1 rfl) ?_
      refine fz_ld (k := (q2 + 1)) (n := rm2) hx hb hK hP 0 (by (first | ((try clear c43_); (try clear hra); (try clear hμa); (try clear μa); (try clear hz9); (try clear hsgm); (try clear hsq); (try clear n3_); (try clear n2_); (try clear n1_); (try clear c14_); (try clear hwa); (try clear hw5); (try clear hwc); (try clear c2_); (try clear ho2); (try clear hDn); (try clear hg2); (try clear hgb); (try clear hv0); (try clear hrm2); (try clear hrm); (try clear ho1); (try clear hg1); (try clear hv1); (try clear hqb3); (try clear hqb); (try clear hsz); (try clear s₁); (try clear hw); (try clear h96); omega) | omega)) (sE_rowA (r := 1) hq2 (by decide)) rfl ⟨by (first | ((try clear c43_); (try clear hra); (try clear hμa); (try clear μa); (try clear hz9); (try clear hsgm); (try clear hsq); (try clear n3_); (try clear n2_); (try clear n1_); (try clear c14_); (try clear hwa); (try clear hw5); (try clear hwc); (try clear c2_); (try clear ho2); (try clear hDn); (try clear hg2); (try clear hgb); (try clear hrm2); (try clear hrm); (try clear ho1); (try clear hg1); (try clear hv1); (try clear hqb3); (try clear hqb2); (try clear hqb); (try clear hsz); (try clear s₁); (try clear hw); (try clear h96); omega) | omega), by (first | ((try clear c43_); (try clear hra); (try clear hμa); (try clear μa); (try clear hz9); (try clear hsgm); (try clear hsq); (try clear n3_); (try clear n2_); (try clear n1_); (try clear c14_); (try clear hw5); (try clear hwc); (try clear c2_); (try clear ho2); (try clear hDn); (try clear hg2); (try clear hgb); (try clear hv0); (try clear hrm); (try clear ho1); (try clear hg1); (try clear hv1); (try clear hqb3); (try clear hqb2); (try clear hqb); (try clear hsz); (try clear s₁); (try clear hw); omega) | omega)⟩ (by (first | ((try clear c43_); (try clear hra); (try clear hμa); (try clear μa); (try clear hz9); (try clear hsgm); (try clear hsq); (try clear n3_); (try clear n2_); (try clear n1_); (try clear c14_); (try clear hwa); (try clear hw5); (try clear hwc); (try clear c2_); (try clear ho2); (try clear hDn); (try clear hg2); (try clear hgb); (try clear hv0); (try clear hrm2); (try clear hrm); (try clear ho1); (try clear hg1); (try clear hv1); (try clear hqb3); (try clear hqb2); (try clear hqb); (try clear hsz); (try clear s₁); (try clear hw); omega) | omega)) dX0_leaveOut_53 ?_
      refine lv_sipush (v := iZ 513) hx hb dX0_leaveOut_54 rfl ?_
      refine fz_icmp_eq (tgt := 73) (by constructor <;> (first | ((try clear c43_); (try clear hra); (try clear hμa); (try clear μa); (try clear hz9); (try clear hsgm); (try clear n3_); (try clear n2_); (try clear n1_); (try clear c14_); (try clear hwa); (try clear hw5); (try clear hwc); (try clear c2_); (try clear ho2); (try clear hDn); (try clear hg2); (try clear hgb); (try clear hv0); (try clear hrm2); (try clear hrm); (try clear ho1); (try clear hg1); (try clear hv1); (try clear hqb3); (try clear hqb2); (try clear hqb); (try clear hsz); (try clear s₁); (try clear hw); (try clear h96); omega) | omega)) (by decide) hx hb dX0_leaveOut_57 (by decide) (fun c57_ => ?_) (fun c57_ => ?_)
      · have SO : outS μ q3 rm3 (Dp (μ (q + 1)) (μ 41 4).toNat + gI (μ 41 6)) ∧ fr (BQ q3) μ μ ∧ gOK (μ 41 6) ∧ μ 41 4 = μ 41 4 ∧ μ 41 5 = μ 41 5 := by
          exact ⟨ho1, fr_rfl, hg1, rfl, rfl⟩
        obtain ⟨SO1, SO2, SO3, SO4, SO5⟩ := SO
        have hgb2 := gI_b (μ 41 6)
        have XA : ag μ μ q := ag_BQ hq ha3 SO2
        have XA2 : ag μ μ q2 := ag_BQ hq2 ha32 SO2
        refine lv_aload hx hb dX0_leaveOut_73 (lv_at hl 7 rfl) ?_
        refine lv_aload hx hb dX0_leaveOut_75 (lv_at hl 2 rfl) ?_
        refine lv_iload hx hb dX0_leaveOut_77 (lv_at hl 1 rfl) ?_
        refine lv_iload hx hb dX0_leaveOut_79 (lv_at hl 0 rfl) ?_
        refine va_callv (va_runV (As := [.ref (h0 + q2), .int (iZ (μ 41 5)), .int (iZ (ra))]) (rest := []) ⟨hx, hb, hml, hown, hts⟩ (s_RputRange l dC dI cI cZ cII cIII h0 H.size μ (q3) (rm3) (q2) (rm2) (μ 41 5) (ra) (Dp (μ (q + 1)) (μ 41 4).toNat + gI (μ 41 6)) (hq3) (hq2) (by exact ha32) (by exact rG_fr hG2 XA2) (by rw [ag_E XA2]; exact hsgm) (by
                        have e5 := ag_5 XA2
                        (first | ((try clear e5); (try clear hgb2); (try clear SO5); (try clear SO4); (try clear SO3); (try clear SO2); (try clear SO1); (try clear SO); (try clear c57_); (try clear c43_); (try clear hra); (try clear hμa); (try clear hz9); (try clear hsgm); (try clear hsq); (try clear n3_); (try clear c14_); (try clear hwa); (try clear hw5); (try clear hwc); (try clear c2_); (try clear ho2); (try clear hDn); (try clear hg2); (try clear hgb); (try clear hrm2); (try clear hrm); (try clear ho1); (try clear hg1); (try clear hv1); (try clear hqb3); (try clear hqb2); (try clear hqb); (try clear hsz); (try clear s₁); (try clear hw); (try clear h96); omega) | omega)) (by (first | ((try clear e5); (try clear hgb2); (try clear SO5); (try clear SO4); (try clear SO3); (try clear SO2); (try clear SO1); (try clear SO); (try clear c57_); (try clear c43_); (try clear hra); (try clear hμa); (try clear μa); (try clear hz9); (try clear hsgm); (try clear hsq); (try clear n3_); (try clear n2_); (try clear n1_); (try clear c14_); (try clear hwa); (try clear hw5); (try clear hwc); (try clear c2_); (try clear ho2); (try clear hg2); (try clear hv0); (try clear hrm2); (try clear hrm); (try clear ho1); (try clear hg1); (try clear hv1); (try clear hqb3); (try clear hqb2); (try clear hqb); (try clear hsz); (try clear s₁); (try clear hw); (try clear h96); omega) | omega)) (by exact SO1)) (cwV 3 hts (gV_G k824 k825 k826 k3 k827) rfl rfl rfl (by decide +kernel) ⟨Nat.le_of_ble_eq_true rfl, Nat.le_of_ble_eq_true rfl⟩) ⟨fun a U g mk q => by obtain ⟨q0, q1, qP, qK, qM⟩ := q; exact ⟨q0, q1, qP, va_K.moved (u := U) (U := U.calling g mk a) (Vm.Alike.refl U.vm) qK, qM⟩, va_recv hK hP (ci := 4) (q0 := q3) rfl ((fw_get (by (first | ((try clear mk); (try clear g); (try clear U); (try clear e5); (try clear hgb2); (try clear SO5); (try clear SO4); (try clear SO3); (try clear SO2); (try clear SO1); (try clear SO); (try clear c57_); (try clear c43_); (try clear hra); (try clear hμa); (try clear μa); (try clear hz9); (try clear hsgm); (try clear hsq); (try clear n3_); (try clear n2_); (try clear n1_); (try clear c14_); (try clear hwa); (try clear hw5); (try clear hwc); (try clear c2_); (try clear ho2); (try clear hDn); (try clear hg2); (try clear hgb); (try clear hv0); (try clear hrm2); (try clear hrm); (try clear ho1); (try clear hg1); (try clear hv1); (try clear hqb2); (try clear hqb); (try clear hsz); (try clear s₁); (try clear hw); (try clear h96); omega) | omega))).trans (by rw [(sE_rowO hq3)])), fun U hU hW => ⟨rfl, by rw [hU], by rw [hU]; exact hP, va_K.moved hW.alike hK, xM_warm hW hM⟩⟩ rfl rfl hl.1 rfl (lv_room (Nat.le_of_ble_eq_true rfl)) dX0_leaveOut_81 ⟨Nat.le_of_ble_eq_true rfl, Nat.le_of_ble_eq_true rfl⟩) hS (fun q _ h => fA_le hS.1 q h) (fA_le hS.1) (fun u9 t9 H1 locs ht9 hvm9 hw9 hB9 hz9 hk9 hS => ?_)
        obtain ⟨hP, -⟩ := hB9
        rw [ht9] at hP
        generalize H1 = H at hP hS ⊢
        obtain ⟨μr, eμr⟩ : ∃ x : va_M, x = u9 := ⟨_, rfl⟩
        rw [← eμr] at hP hw9
        have hμr := hw9; clear hw9
        obtain ⟨o4_, f4_⟩ := hμr
        have F4 : fr (BQ q3) μ μr := fr_trans SO2 (fr_mono f4_ (fun x y h => Or.inl h))
        have r4 : μr 41 4 = μ 41 4 := (f4_ _ _ (n41 hq3)).trans SO4
        have r5 : μr 41 5 = μ 41 5 := (f4_ _ _ (n41 hq3)).trans SO5
        have r6 := f4_ 41 6 (n41 hq3)
        refine lv_iload_n hx hb dX0_leaveOut_84 rfl (lv_at hl 6 rfl) ?_
        refine lv_iconst (v := iZ 4) hx hb dX0_leaveOut_85 rfl ?_
        refine fz_icmp_ne (tgt := 98) (by constructor <;> (first | ((try clear r6); (try clear r5); (try clear r4); (try clear f4_); (try clear o4_); (try clear hμr); (try clear x); (try clear eμr); (try clear hgb2); (try clear SO5); (try clear SO4); (try clear SO3); (try clear SO2); (try clear SO1); (try clear SO); (try clear c57_); (try clear c43_); (try clear hra); (try clear hμa); (try clear μa); (try clear hz9); (try clear hsgm); (try clear hsq); (try clear n3_); (try clear n2_); (try clear n1_); (try clear c14_); (try clear hwa); (try clear hwc); (try clear c2_); (try clear ho2); (try clear hDn); (try clear hg2); (try clear hgb); (try clear hv0); (try clear hrm2); (try clear hrm); (try clear ho1); (try clear hg1); (try clear hv1); (try clear hqb3); (try clear hqb2); (try clear hqb); (try clear hsz); (try clear s₁); (try clear hw); (try clear h96); omega) | omega)) (by decide) hx hb dX0_leaveOut_86 (by decide) (fun c86_ => ?_) (fun h9 => (by (first | ((try clear c86_); (try clear r6); (try clear r5); (try clear r4); (try clear f4_); (try clear o4_); (try clear hμr); (try clear x); (try clear eμr); (try clear hgb2); (try clear SO5); (try clear SO4); (try clear SO3); (try clear SO2); (try clear SO1); (try clear SO); (try clear c57_); (try clear c43_); (try clear hra); (try clear hμa); (try clear μa); (try clear hz9); (try clear hsgm); (try clear hsq); (try clear n3_); (try clear n2_); (try clear n1_); (try clear c14_); (try clear hwa); (try clear hwc); (try clear c2_); (try clear ho2); (try clear hDn); (try clear hg2); (try clear hgb); (try clear hv0); (try clear hrm2); (try clear hrm); (try clear ho1); (try clear hg1); (try clear hv1); (try clear hqb3); (try clear hqb2); (try clear hqb); (try clear hsz); (try clear s₁); (try clear hw); (try clear h96); omega) | omega)))
        refine lv_aload_n hx hb dX0_leaveOut_98 rfl (lv_at hl 3 rfl) ?_
        refine lv_iload hx hb dX0_leaveOut_99 (lv_at hl 0 rfl) ?_
        refine fz_put (D := (dC, dI)) (ci := 0) (ty := .int) (z := ra) (C := RX0) (T := TX0) (N := 7) hx hb hts inG0 tyX0 tyX0_ok nmX0 hown hK hP fA_in hS (k := 41) (by decide) (F := (sF41 h0)) sE_41 rfl 5 (by decide) (hts _ k187) (fun _ h9 => h9) rfl (by decide +kernel) rfl rfl (fun _ => Nat.le_of_ble_eq_true rfl) (fun _ _ => rfl) dX0_leaveOut_101 (fun H locs hP hS => ?_)
        obtain ⟨μ2, eμ2⟩ : ∃ x : va_M, x = uz μr 41 5 (ra) := ⟨_, rfl⟩
        rw [← eμ2] at hP
        exact W.vret hx hb hr (fun t9 ht9 hW9 => ⟨⟨μ2, rfl, (by
                        try dsimp only
                        have F5 : fr (BQ q3) μ μ2 := by rw [eμ2]; exact fr_uz F4 (Or.inr ⟨rfl, by decide, by decide⟩)
                        have XB : ag μ μ2 q := ag_BQ hq ha3 F5
                        have XB2 : ag μ μ2 q2 := ag_BQ hq2 ha32 F5
                        have e6 := r6
                        rw [← show μ2 41 6 = μr 41 6 by rw [eμ2, uz_n (by decide)]] at e6
                        have A4 : μ2 41 4 = μ 41 4 := by rw [eμ2, uz_n (by decide)]; exact r4
                        have A5 : μ2 41 5 = ra := by rw [eμ2, uz_s]
                        refine ⟨F5, ⟨?_, by rw [e6]; exact SO3, ?_⟩, ?_⟩
                        · rw [vis_eq XB XB2, A4, A5]
                          exact n3_
                        · rw [e6, ag_E XB, A4]
                          refine outS_at (of_w hq3 rfl o4_ (by rw [eμ2])) ?_
                          rfl
                        · rw [A4, A5]
                          (first | ((try clear A4); (try clear e6); (try clear x); (try clear eμ2); (try clear c86_); (try clear r6); (try clear r4); (try clear f4_); (try clear o4_); (try clear hμr); (try clear eμr); (try clear hgb2); (try clear SO5); (try clear SO4); (try clear SO3); (try clear SO2); (try clear SO1); (try clear SO); (try clear c57_); (try clear c43_); (try clear hra); (try clear hμa); (try clear hz9); (try clear hsgm); (try clear hsq); (try clear n3_); (try clear n2_); (try clear c14_); (try clear hwa); (try clear hw5); (try clear hwc); (try clear c2_); (try clear ho2); (try clear hDn); (try clear hg2); (try clear hgb); (try clear hv0); (try clear hrm2); (try clear hrm); (try clear ho1); (try clear hg1); (try clear hv1); (try clear hqb3); (try clear hqb2); (try clear hqb); (try clear hsz); (try clear s₁); (try clear hw); (try clear h96); omega) | omega)), by rw [ht9]; exact hP, va_K.moved hW9.alike hK⟩, hS.F ht9⟩) hS.2.2 dX0_leaveOut_104
      · refine lv_aload hx hb dX0_leaveOut_60 (lv_at hl 7 rfl) ?_
        refine lv_sipush (v := iZ 513) hx hb dX0_leaveOut_62 rfl ?_
        refine va_callv (va_runV (As := [.int (iZ (513))]) (rest := []) ⟨hx, hb, hml, hown, hts⟩ (s_Rput l dC dI cI cZ cII cIII h0 H.size μ (q3) (rm3) (513) (hq3) (by exact ho2)) (cwV 1 hts (gV_G k819 k411 k412 k3 k413) rfl rfl rfl (by decide +kernel) ⟨Nat.le_of_ble_eq_true rfl, Nat.le_of_ble_eq_true rfl⟩) ⟨fun a U g mk q => by obtain ⟨q0, q1, qP, qK, qM⟩ := q; exact ⟨q0, q1, qP, va_K.moved (u := U) (U := U.calling g mk a) (Vm.Alike.refl U.vm) qK, qM⟩, va_recv hK hP (ci := 4) (q0 := q3) rfl ((fw_get (by (first | ((try clear mk); (try clear g); (try clear U); (try clear c57_); (try clear c43_); (try clear hra); (try clear hμa); (try clear μa); (try clear hz9); (try clear hsgm); (try clear hsq); (try clear n3_); (try clear n2_); (try clear n1_); (try clear c14_); (try clear hwa); (try clear hw5); (try clear hwc); (try clear c2_); (try clear ho2); (try clear hDn); (try clear hg2); (try clear hgb); (try clear hv0); (try clear hrm2); (try clear hrm); (try clear ho1); (try clear hg1); (try clear hv1); (try clear hqb2); (try clear hqb); (try clear hsz); (try clear s₁); (try clear hw); (try clear h96); omega) | omega))).trans (by rw [(sE_rowO hq3)])), fun U hU hW => ⟨rfl, by rw [hU], by rw [hU]; exact hP, va_K.moved hW.alike hK, xM_warm hW hM⟩⟩ rfl rfl hl.1 rfl (lv_room (Nat.le_of_ble_eq_true rfl)) dX0_leaveOut_65 ⟨Nat.le_of_ble_eq_true rfl, Nat.le_of_ble_eq_true rfl⟩) hS (fun q _ h => fA_le hS.1 q h) (fA_le hS.1) (fun u9 t9 H1 locs ht9 hvm9 hw9 hB9 hz9 hk9 hS => ?_)
        obtain ⟨hP, -⟩ := hB9
        rw [ht9] at hP
        generalize H1 = H at hP hS ⊢
        obtain ⟨μo, eμo⟩ : ∃ x : va_M, x = u9 := ⟨_, rfl⟩
        rw [← eμo] at hP hw9
        have hμo := hw9; clear hw9
        obtain ⟨c1, c2⟩ := hμo
        rw [show μ 41 6 = 0 by (first | ((try clear c2); (try clear c1); (try clear hμo); (try clear x); (try clear eμo); (try clear μo); (try clear hz9); (try clear c57_); (try clear hra); (try clear hμa); (try clear ra); (try clear μa); (try clear hsgm); (try clear hsq); (try clear n3_); (try clear n2_); (try clear n1_); (try clear c14_); (try clear hwa); (try clear hw5); (try clear hwc); (try clear c2_); (try clear ho2); (try clear hDn); (try clear hg2); (try clear hgb); (try clear hv0); (try clear hrm2); (try clear hrm); (try clear ho1); (try clear hg1); (try clear hv1); (try clear hqb3); (try clear hqb2); (try clear hqb); (try clear hsz); (try clear s₁); (try clear hw); (try clear h96); omega) | omega), gI_0, Int.add_zero] at ho1
        obtain ⟨o1_, f1_⟩ := outS_put ho1 (s := 513) (by unfold vS; (first | ((try clear f1_); (try clear o1_); (try clear c2); (try clear c1); (try clear hμo); (try clear x); (try clear eμo); (try clear μo); (try clear hz9); (try clear c57_); (try clear c43_); (try clear hra); (try clear hμa); (try clear μa); (try clear hsgm); (try clear hsq); (try clear n3_); (try clear n2_); (try clear n1_); (try clear c14_); (try clear hwa); (try clear hw5); (try clear hwc); (try clear c2_); (try clear ho2); (try clear hDn); (try clear hg2); (try clear hgb); (try clear hv0); (try clear hrm2); (try clear hrm); (try clear ho1); (try clear hg1); (try clear hv1); (try clear hqb3); (try clear hqb2); (try clear hqb); (try clear hsz); (try clear s₁); (try clear hw); (try clear h96); omega) | omega)) (by rw [dl_1 (Or.inl rfl)]; (first | ((try clear f1_); (try clear o1_); (try clear c2); (try clear c1); (try clear hμo); (try clear x); (try clear eμo); (try clear μo); (try clear hz9); (try clear c57_); (try clear c43_); (try clear hra); (try clear hμa); (try clear μa); (try clear hsgm); (try clear hsq); (try clear n3_); (try clear n2_); (try clear n1_); (try clear c14_); (try clear hwa); (try clear hw5); (try clear hwc); (try clear c2_); (try clear ho2); (try clear hg2); (try clear hgb); (try clear hv0); (try clear hrm2); (try clear hrm); (try clear ho1); (try clear hg1); (try clear hv1); (try clear hqb3); (try clear hqb2); (try clear hqb); (try clear hsz); (try clear s₁); (try clear hw); (try clear h96); omega) | omega)) c1 c2
        rw [dl_1 (Or.inl rfl)] at o1_
        refine lv_aload_n hx hb dX0_leaveOut_68 rfl (lv_at hl 3 rfl) ?_
        refine lv_iload_n hx hb dX0_leaveOut_69 rfl (lv_at hl 6 rfl) ?_
        refine fz_put (D := (dC, dI)) (ci := 0) (ty := .int) (z := wy) (C := RX0) (T := TX0) (N := 7) hx hb hts inG0 tyX0 tyX0_ok nmX0 hown hK hP fA_in hS (k := 41) (by decide) (F := (sF41 h0)) sE_41 rfl 6 (by decide) (hts _ k188) (fun _ h9 => h9) rfl (by decide +kernel) rfl rfl (fun _ => Nat.le_of_ble_eq_true rfl) (fun _ _ => rfl) dX0_leaveOut_70 (fun H locs hP hS => ?_)
        obtain ⟨μ3, eμ3⟩ : ∃ x : va_M, x = uz μo 41 6 (wy) := ⟨_, rfl⟩
        rw [← eμ3] at hP
        have SO : outS μ3 q3 rm3 (Dp (μ (q + 1)) (μ 41 4).toNat + gI (μ3 41 6)) ∧ fr (BQ q3) μ μ3 ∧ gOK (μ3 41 6) ∧ μ3 41 4 = μ 41 4 ∧ μ3 41 5 = μ 41 5 := by
          have e6 : μ3 41 6 = wy := by rw [eμ3, uz_s]
          have e4 : μ3 41 4 = μ 41 4 := by rw [eμ3, uz_n (by decide)]; exact f1_ _ _ (n41 hq3)
          have e5 : μ3 41 5 = μ 41 5 := by rw [eμ3, uz_n (by decide)]; exact f1_ _ _ (n41 hq3)
          rw [e6, gI_n (by (first | ((try clear e5); (try clear e4); (try clear e6); (try clear SO); (try clear μo); (try clear x); (try clear eμ3); (try clear f1_); (try clear o1_); (try clear c2); (try clear c1); (try clear hμo); (try clear eμo); (try clear hz9); (try clear c57_); (try clear c43_); (try clear hra); (try clear hμa); (try clear μa); (try clear hsgm); (try clear hsq); (try clear n3_); (try clear n2_); (try clear n1_); (try clear c14_); (try clear hwa); (try clear hwc); (try clear c2_); (try clear ho2); (try clear hDn); (try clear hg2); (try clear hgb); (try clear hv0); (try clear hrm2); (try clear hrm); (try clear ho1); (try clear hg1); (try clear hv1); (try clear hqb3); (try clear hqb2); (try clear hqb); (try clear hsz); (try clear s₁); (try clear hw); (try clear h96); omega) | omega))]
          exact ⟨of_w hq3 rfl o1_ (by rw [eμ3]), by rw [eμ3]; exact fr_uz (fr_mono f1_ (fun x y h => Or.inl h)) (Or.inr ⟨rfl, by decide, by decide⟩), hgw, e4, e5⟩
        obtain ⟨SO1, SO2, SO3, SO4, SO5⟩ := SO
        have hgb2 := gI_b (μ3 41 6)
        have XA : ag μ μ3 q := ag_BQ hq ha3 SO2
        have XA2 : ag μ μ3 q2 := ag_BQ hq2 ha32 SO2
        refine lv_aload hx hb dX0_leaveOut_73 (lv_at hl 7 rfl) ?_
        refine lv_aload hx hb dX0_leaveOut_75 (lv_at hl 2 rfl) ?_
        refine lv_iload hx hb dX0_leaveOut_77 (lv_at hl 1 rfl) ?_
        refine lv_iload hx hb dX0_leaveOut_79 (lv_at hl 0 rfl) ?_
        refine va_callv (va_runV (As := [.ref (h0 + q2), .int (iZ (μ 41 5)), .int (iZ (ra))]) (rest := []) ⟨hx, hb, hml, hown, hts⟩ (s_RputRange l dC dI cI cZ cII cIII h0 H.size μ3 (q3) (rm3) (q2) (rm2) (μ 41 5) (ra) (Dp (μ (q + 1)) (μ 41 4).toNat + gI (μ3 41 6)) (hq3) (hq2) (by exact ha32) (by exact rG_fr hG2 XA2) (by rw [ag_E XA2]; exact hsgm) (by
                        have e5 := ag_5 XA2
                        (first | ((try clear hgb2); (try clear SO4); (try clear SO3); (try clear SO2); (try clear SO1); (try clear SO); (try clear μo); (try clear x); (try clear eμ3); (try clear f1_); (try clear o1_); (try clear c2); (try clear c1); (try clear hμo); (try clear eμo); (try clear hz9); (try clear c57_); (try clear c43_); (try clear hra); (try clear hμa); (try clear hsgm); (try clear hsq); (try clear n3_); (try clear c14_); (try clear hwa); (try clear hw5); (try clear hwc); (try clear c2_); (try clear ho2); (try clear hDn); (try clear hg2); (try clear hgb); (try clear hrm2); (try clear hrm); (try clear ho1); (try clear hg1); (try clear hv1); (try clear hqb3); (try clear hqb2); (try clear hqb); (try clear hsz); (try clear s₁); (try clear hw); (try clear h96); omega) | omega)) (by (first | ((try clear e5); (try clear SO5); (try clear SO4); (try clear SO3); (try clear SO2); (try clear SO1); (try clear SO); (try clear μo); (try clear x); (try clear eμ3); (try clear f1_); (try clear o1_); (try clear c2); (try clear c1); (try clear hμo); (try clear eμo); (try clear hz9); (try clear c57_); (try clear c43_); (try clear hra); (try clear hμa); (try clear μa); (try clear hsgm); (try clear hsq); (try clear n3_); (try clear n2_); (try clear n1_); (try clear c14_); (try clear hwa); (try clear hw5); (try clear hwc); (try clear c2_); (try clear ho2); (try clear hg2); (try clear hgb); (try clear hv0); (try clear hrm2); (try clear hrm); (try clear ho1); (try clear hg1); (try clear hv1); (try clear hqb3); (try clear hqb2); (try clear hqb); (try clear hsz); (try clear s₁); (try clear hw); (try clear h96); omega) | omega)) (by exact SO1)) (cwV 3 hts (gV_G k824 k825 k826 k3 k827) rfl rfl rfl (by decide +kernel) ⟨Nat.le_of_ble_eq_true rfl, Nat.le_of_ble_eq_true rfl⟩) ⟨fun a U g mk q => by obtain ⟨q0, q1, qP, qK, qM⟩ := q; exact ⟨q0, q1, qP, va_K.moved (u := U) (U := U.calling g mk a) (Vm.Alike.refl U.vm) qK, qM⟩, va_recv hK hP (ci := 4) (q0 := q3) rfl ((fw_get (by (first | ((try clear mk); (try clear g); (try clear U); (try clear e5); (try clear hgb2); (try clear SO5); (try clear SO4); (try clear SO3); (try clear SO2); (try clear SO1); (try clear SO); (try clear μo); (try clear x); (try clear eμ3); (try clear f1_); (try clear o1_); (try clear c2); (try clear c1); (try clear hμo); (try clear eμo); (try clear hz9); (try clear c57_); (try clear c43_); (try clear hra); (try clear hμa); (try clear μa); (try clear hsgm); (try clear hsq); (try clear n3_); (try clear n2_); (try clear n1_); (try clear c14_); (try clear hwa); (try clear hw5); (try clear hwc); (try clear c2_); (try clear ho2); (try clear hDn); (try clear hg2); (try clear hgb); (try clear hv0); (try clear hrm2); (try clear hrm); (try clear ho1); (try clear hg1); (try clear hv1); (try clear hqb2); (try clear hqb); (try clear hsz); (try clear s₁); (try clear hw); (try clear h96); omega) | omega))).trans (by rw [(sE_rowO hq3)])), fun U hU hW => ⟨rfl, by rw [hU], by rw [hU]; exact hP, va_K.moved hW.alike hK, xM_warm hW hM⟩⟩ rfl rfl hl.1 rfl (lv_room (Nat.le_of_ble_eq_true rfl)) dX0_leaveOut_81 ⟨Nat.le_of_ble_eq_true rfl, Nat.le_of_ble_eq_true rfl⟩) hS (fun q _ h => fA_le hS.1 q h) (fA_le hS.1) (fun u9 t9 H1 locs ht9 hvm9 hw9 hB9 hz9 hk9 hS => ?_)
        obtain ⟨hP, -⟩ := hB9
        rw [ht9] at hP
        generalize H1 = H at hP hS ⊢
        obtain ⟨μr, eμr⟩ : ∃ x : va_M, x = u9 := ⟨_, rfl⟩
        rw [← eμr] at hP hw9
        have hμr := hw9; clear hw9
        obtain ⟨o4_, f4_⟩ := hμr
        have F4 : fr (BQ q3) μ μr := fr_trans SO2 (fr_mono f4_ (fun x y h => Or.inl h))
        have r4 : μr 41 4 = μ 41 4 := (f4_ _ _ (n41 hq3)).trans SO4
        have r5 : μr 41 5 = μ 41 5 := (f4_ _ _ (n41 hq3)).trans SO5
        have r6 := f4_ 41 6 (n41 hq3)
        refine lv_iload_n hx hb dX0_leaveOut_84 rfl (lv_at hl 6 rfl) ?_
        refine lv_iconst (v := iZ 4) hx hb dX0_leaveOut_85 rfl ?_
        refine fz_icmp_ne (tgt := 98) (by constructor <;> (first | ((try clear r6); (try clear r5); (try clear r4); (try clear f4_); (try clear o4_); (try clear hμr); (try clear x); (try clear eμr); (try clear hgb2); (try clear SO5); (try clear SO4); (try clear SO3); (try clear SO2); (try clear SO1); (try clear SO); (try clear μo); (try clear eμ3); (try clear f1_); (try clear o1_); (try clear c2); (try clear c1); (try clear hμo); (try clear eμo); (try clear hz9); (try clear c57_); (try clear c43_); (try clear hra); (try clear hμa); (try clear μa); (try clear hsgm); (try clear hsq); (try clear n3_); (try clear n2_); (try clear n1_); (try clear c14_); (try clear hwa); (try clear hwc); (try clear c2_); (try clear ho2); (try clear hDn); (try clear hg2); (try clear hgb); (try clear hv0); (try clear hrm2); (try clear hrm); (try clear ho1); (try clear hg1); (try clear hv1); (try clear hqb3); (try clear hqb2); (try clear hqb); (try clear hsz); (try clear s₁); (try clear hw); (try clear h96); omega) | omega)) (by decide) hx hb dX0_leaveOut_86 (by decide) (fun c86_ => ?_) (fun h9 => (by (first | ((try clear c86_); (try clear r6); (try clear r5); (try clear r4); (try clear f4_); (try clear o4_); (try clear hμr); (try clear x); (try clear eμr); (try clear hgb2); (try clear SO5); (try clear SO4); (try clear SO3); (try clear SO2); (try clear SO1); (try clear SO); (try clear μo); (try clear eμ3); (try clear f1_); (try clear o1_); (try clear c2); (try clear c1); (try clear hμo); (try clear eμo); (try clear hz9); (try clear c57_); (try clear c43_); (try clear hra); (try clear hμa); (try clear μa); (try clear hsgm); (try clear hsq); (try clear n3_); (try clear n2_); (try clear n1_); (try clear c14_); (try clear hwa); (try clear hwc); (try clear c2_); (try clear ho2); (try clear hDn); (try clear hg2); (try clear hgb); (try clear hv0); (try clear hrm2); (try clear hrm); (try clear ho1); (try clear hg1); (try clear hv1); (try clear hqb3); (try clear hqb2); (try clear hqb); (try clear hsz); (try clear s₁); (try clear hw); (try clear h96); omega) | omega)))
        refine lv_aload_n hx hb dX0_leaveOut_98 rfl (lv_at hl 3 rfl) ?_
        refine lv_iload hx hb dX0_leaveOut_99 (lv_at hl 0 rfl) ?_
        refine fz_put (D := (dC, dI)) (ci := 0) (ty := .int) (z := ra) (C := RX0) (T := TX0) (N := 7) hx hb hts inG0 tyX0 tyX0_ok nmX0 hown hK hP fA_in hS (k := 41) (by decide) (F := (sF41 h0)) sE_41 rfl 5 (by decide) (hts _ k187) (fun _ h9 => h9) rfl (by decide +kernel) rfl rfl (fun _ => Nat.le_of_ble_eq_true rfl) (fun _ _ => rfl) dX0_leaveOut_101 (fun H locs hP hS => ?_)
        obtain ⟨μ4, eμ4⟩ : ∃ x : va_M, x = uz μr 41 5 (ra) := ⟨_, rfl⟩
        rw [← eμ4] at hP
        exact W.vret hx hb hr (fun t9 ht9 hW9 => ⟨⟨μ4, rfl, (by
                        try dsimp only
                        have F5 : fr (BQ q3) μ μ4 := by rw [eμ4]; exact fr_uz F4 (Or.inr ⟨rfl, by decide, by decide⟩)
                        have XB : ag μ μ4 q := ag_BQ hq ha3 F5
                        have XB2 : ag μ μ4 q2 := ag_BQ hq2 ha32 F5
                        have e6 := r6
                        rw [← show μ4 41 6 = μr 41 6 by rw [eμ4, uz_n (by decide)]] at e6
                        have A4 : μ4 41 4 = μ 41 4 := by rw [eμ4, uz_n (by decide)]; exact r4
                        have A5 : μ4 41 5 = ra := by rw [eμ4, uz_s]
                        refine ⟨F5, ⟨?_, by rw [e6]; exact SO3, ?_⟩, ?_⟩
                        · rw [vis_eq XB XB2, A4, A5]
                          exact n3_
                        · rw [e6, ag_E XB, A4]
                          refine outS_at (of_w hq3 rfl o4_ (by rw [eμ4])) ?_
                          rfl
                        · rw [A4, A5]
                          (first | ((try clear A4); (try clear e6); (try clear x); (try clear eμ4); (try clear c86_); (try clear r6); (try clear r4); (try clear f4_); (try clear o4_); (try clear hμr); (try clear eμr); (try clear hgb2); (try clear SO4); (try clear SO3); (try clear SO2); (try clear SO1); (try clear SO); (try clear μo); (try clear eμ3); (try clear f1_); (try clear o1_); (try clear c2); (try clear c1); (try clear hμo); (try clear eμo); (try clear hz9); (try clear c57_); (try clear c43_); (try clear hra); (try clear hμa); (try clear hsgm); (try clear hsq); (try clear n3_); (try clear n2_); (try clear c14_); (try clear hwa); (try clear hw5); (try clear hwc); (try clear c2_); (try clear ho2); (try clear hDn); (try clear hg2); (try clear hgb); (try clear hv0); (try clear hrm2); (try clear hrm); (try clear ho1); (try clear hg1); (try clear hv1); (try clear hqb3); (try clear hqb2); (try clear hqb); (try clear hsz); (try clear s₁); (try clear hw); (try clear h96); omega) | omega)), by rw [ht9]; exact hP, va_K.moved hW9.alike hK⟩, hS.F ht9⟩) hS.2.2 dX0_leaveOut_104
  · have hwa : μ 41 4 < μ q 5 ∧ μ (q + 1) (μ 41 4).toNat ≠ 515 := by
      rcases hw with h | h
      · exact h.2
      · exact absurd h.1 (by (first | ((try clear hwa); (try clear ho2); (try clear hDn); (try clear hg2); (try clear hgb); (try clear hv0); (try clear hrm2); (try clear hrm); (try clear ho1); (try clear hg1); (try clear hv1); (try clear hqb3); (try clear hqb2); (try clear hqb); (try clear hsz); (try clear s₁); (try clear hw); (try clear h96); omega) | omega))
    have hgw : gOK wy := by unfold gOK; (first | ((try clear hwa); (try clear ho2); (try clear hDn); (try clear hg2); (try clear hgb); (try clear hv0); (try clear hrm2); (try clear hrm); (try clear ho1); (try clear hg1); (try clear hv1); (try clear hqb3); (try clear hqb2); (try clear hqb); (try clear hsz); (try clear s₁); (try clear hw); (try clear h96); omega) | omega)
    clear hw
    refine lv_aload_n hx hb dX0_leaveOut_5 rfl (lv_at hl 1 rfl) ?_
    refine lv_goto (tgt := 10) hx hb dX0_leaveOut_6 (by decide) ?_
    refine lv_astore (lv' := [(5, .ref (h0 + q)), (0, .ref (h0 + 41)), (1, .ref (h0 + q)), (2, .ref (h0 + q2)), (3, .int (iZ (wy))), (4, .ref (h0 + q3))]) hx hb dX0_leaveOut_10 hl (by decide) rfl (fun ls hl => ?_)
    refine lv_iload_n hx hb dX0_leaveOut_12 rfl (lv_at hl 4 rfl) ?_
    refine lv_iconst (v := iZ 4) hx hb dX0_leaveOut_13 rfl ?_
    refine fz_icmp_ne (tgt := 24) (by constructor <;> (first | ((try clear hwa); (try clear ho2); (try clear hDn); (try clear hg2); (try clear hgb); (try clear hv0); (try clear hrm2); (try clear hrm); (try clear ho1); (try clear hg1); (try clear hv1); (try clear hqb3); (try clear hqb2); (try clear hqb); (try clear hsz); (try clear s₁); (try clear hw); (try clear h96); omega) | omega)) (by decide) hx hb dX0_leaveOut_14 (by decide) (fun h9 => (by (first | ((try clear hwa); (try clear ho2); (try clear hDn); (try clear hg2); (try clear hgb); (try clear hv0); (try clear hrm2); (try clear hrm); (try clear ho1); (try clear hg1); (try clear hv1); (try clear hqb3); (try clear hqb2); (try clear hqb); (try clear hsz); (try clear s₁); (try clear hw); (try clear h96); omega) | omega))) (fun c14_ => ?_)
    refine lv_aload_n hx hb dX0_leaveOut_17 rfl (lv_at hl 1 rfl) ?_
    refine fz_get (D := (dC, dI)) (ci := 0) (v := .int (iZ (μ 41 4))) (C := RX0) (T := TX0) (N := 7) hx hb hts inG0 hown hK hP (k := 41) (by decide) (F := (sF41 h0)) sE_41 rfl 4 (by decide) (hts _ k186) (fun _ h9 => h9) rfl dX0_leaveOut_18 ?_
    refine lv_goto (tgt := 28) hx hb dX0_leaveOut_21 (by decide) ?_
    refine lv_istore (lv' := [(6, .int (iZ (μ 41 4))), (5, .ref (h0 + q)), (0, .ref (h0 + 41)), (1, .ref (h0 + q)), (2, .ref (h0 + q2)), (3, .int (iZ (wy))), (4, .ref (h0 + q3))]) hx hb dX0_leaveOut_28 hl (by decide) rfl (fun ls hl => ?_)
    obtain ⟨n1_, n2_, n3_⟩ := vis_4 hG hv1 hwa.1 hwa.2
    have hsq := hG.1 (μ 41 4).toNat
    have hsgm := it_sg hG (by (first | ((try clear hsgm); (try clear hsq); (try clear n3_); (try clear n2_); (try clear n1_); (try clear c14_); (try clear hwa); (try clear c2_); (try clear ho2); (try clear hDn); (try clear hg2); (try clear hgb); (try clear hrm2); (try clear hrm); (try clear ho1); (try clear hg1); (try clear hv1); (try clear hqb3); (try clear hqb2); (try clear hqb); (try clear hsz); (try clear s₁); (try clear hw); (try clear h96); omega) | omega)) hwa.1 hwa.2
    refine lv_aload hx hb dX0_leaveOut_30 (lv_at hl 1 rfl) ?_
    refine lv_iload hx hb dX0_leaveOut_32 (lv_at hl 0 rfl) ?_
    refine va_calli (va_runV (As := [.int (iZ (μ 41 4))]) (rest := []) ⟨hx, hb, hml, hown, hts⟩ (s_Rafter l dC dI cI cZ cII cIII h0 s.heap.size μ (q) (rm) (μ 41 4) (hq) (by (first | ((try clear hsgm); (try clear hsq); (try clear n3_); (try clear n2_); (try clear n1_); (try clear c14_); (try clear c2_); (try clear ho2); (try clear hDn); (try clear hg2); (try clear hgb); (try clear hrm2); (try clear ho1); (try clear hg1); (try clear hv1); (try clear hqb3); (try clear hqb2); (try clear hqb); (try clear hsz); (try clear s₁); (try clear hw); (try clear h96); omega) | omega)) (by constructor <;> (first | ((try clear hsgm); (try clear hsq); (try clear n3_); (try clear c14_); (try clear hwa); (try clear c2_); (try clear ho2); (try clear hDn); (try clear hg2); (try clear hgb); (try clear hrm2); (try clear ho1); (try clear hg1); (try clear hv1); (try clear hqb3); (try clear hqb2); (try clear hsz); (try clear s₁); (try clear hw); (try clear h96); omega) | omega))) (cwV 1 hts (gV_G k791 k438 k439 k3 k440) rfl rfl rfl (by decide +kernel) ⟨Nat.le_of_ble_eq_true rfl, Nat.le_of_ble_eq_true rfl⟩) ⟨fun a U g mk q => by obtain ⟨q0, q1, qP, qK, qM⟩ := q; exact ⟨q0, q1, qP, va_K.moved (u := U) (U := U.calling g mk a) (Vm.Alike.refl U.vm) qK, qM⟩, va_recv hK hP (ci := 4) (q0 := q) rfl ((fw_get (by (first | ((try clear mk); (try clear g); (try clear U); (try clear hsgm); (try clear hsq); (try clear n3_); (try clear n2_); (try clear n1_); (try clear c14_); (try clear hwa); (try clear c2_); (try clear ho2); (try clear hDn); (try clear hg2); (try clear hgb); (try clear hv0); (try clear hrm2); (try clear hrm); (try clear ho1); (try clear hg1); (try clear hv1); (try clear hqb3); (try clear hqb2); (try clear hsz); (try clear s₁); (try clear hw); (try clear h96); omega) | omega))).trans (by rw [(sE_rowO hq)])), fun U hU hW => ⟨rfl, by rw [hU], by rw [hU]; exact hP, va_K.moved hW.alike hK, xM_warm hW hM⟩⟩ rfl rfl hl.1 rfl (lv_room (Nat.le_of_ble_eq_true rfl)) dX0_leaveOut_34 ⟨Nat.le_of_ble_eq_true rfl, Nat.le_of_ble_eq_true rfl⟩) hS (fun q _ h => fA_le hS.1 q h) (fA_le hS.1) (fun r9 u9 t9 H1 locs ht9 hvm9 hw9 hB9 hz9 hk9 hS => ?_)
    obtain ⟨μa, ra⟩ := u9
    obtain ⟨hP, -⟩ := hB9
    rw [ht9] at hP
    generalize H1 = H at hP hS ⊢
    obtain ⟨e9, hw9⟩ := hw9
    have e9 : r9 = iZ ra := e9
    subst e9
    simp only at hP hw9
    have hμa := hw9; clear hw9
    rw [hμa.1] at hP; have hμa := hμa.2
    have hra := hμa
    rw [← hra] at n2_ n3_ hsgm
    refine lv_istore (lv' := [(7, .int (iZ (ra))), (6, .int (iZ (μ 41 4))), (5, .ref (h0 + q)), (0, .ref (h0 + 41)), (1, .ref (h0 + q)), (2, .ref (h0 + q2)), (3, .int (iZ (wy))), (4, .ref (h0 + q3))]) hx hb dX0_leaveOut_37 hl (by decide) rfl (fun ls hl => ?_)
    refine lv_aload_n hx hb dX0_leaveOut_39 rfl (lv_at hl 3 rfl) ?_
    refine fz_get (D := (dC, dI)) (ci := 0) (v := .int (iZ (μ 41 6))) (C := RX0) (T := TX0) (N := 7) hx hb hts inG0 hown hK hP (k := 41) (by decide) (F := (sF41 h0)) sE_41 rfl 6 (by decide) (hts _ k188) (fun _ h9 => h9) rfl dX0_leaveOut_40 ?_
    refine fz_if_ne (tgt := 73) (by constructor <;> (first | ((try clear hra); (try clear hμa); (try clear μa); (try clear hz9); (try clear hsgm); (try clear hsq); (try clear n3_); (try clear n2_); (try clear n1_); (try clear c14_); (try clear hwa); (try clear c2_); (try clear ho2); (try clear hDn); (try clear hgb); (try clear hv0); (try clear hrm2); (try clear hrm); (try clear ho1); (try clear hg1); (try clear hv1); (try clear hqb3); (try clear hqb2); (try clear hqb); (try clear hsz); (try clear s₁); (try clear hw); (try clear h96); omega) | omega)) hx hb dX0_leaveOut_43 (by decide) (fun c43_ => ?_) (fun c43_ => ?_)
    · have SO : outS μ q3 rm3 (Dp (μ (q + 1)) (μ 41 4).toNat + gI (μ 41 6)) ∧ fr (BQ q3) μ μ ∧ gOK (μ 41 6) ∧ μ 41 4 = μ 41 4 ∧ μ 41 5 = μ 41 5 := by
        exact ⟨ho1, fr_rfl, hg1, rfl, rfl⟩
      obtain ⟨SO1, SO2, SO3, SO4, SO5⟩ := SO
      have hgb2 := gI_b (μ 41 6)
      have XA : ag μ μ q := ag_BQ hq ha3 SO2
      have XA2 : ag μ μ q2 := ag_BQ hq2 ha32 SO2
      refine lv_aload hx hb dX0_leaveOut_73 (lv_at hl 7 rfl) ?_
      refine lv_aload hx hb dX0_leaveOut_75 (lv_at hl 2 rfl) ?_
      refine lv_iload hx hb dX0_leaveOut_77 (lv_at hl 1 rfl) ?_
      refine lv_iload hx hb dX0_leaveOut_79 (lv_at hl 0 rfl) ?_
      refine va_callv (va_runV (As := [.ref (h0 + q), .int (iZ (μ 41 4)), .int (iZ (ra))]) (rest := []) ⟨hx, hb, hml, hown, hts⟩ (s_RputRange l dC dI cI cZ cII cIII h0 H.size μ (q3) (rm3) (q) (rm) (μ 41 4) (ra) (Dp (μ (q + 1)) (μ 41 4).toNat + gI (μ 41 6)) (hq3) (hq) (by exact ha3) (by exact rG_fr hG XA) (by rw [ag_E XA]; exact hsgm) (by
                    have e5 := ag_5 XA
                    (first | ((try clear e5); (try clear hgb2); (try clear SO5); (try clear SO4); (try clear SO3); (try clear SO2); (try clear SO1); (try clear SO); (try clear c43_); (try clear hra); (try clear hμa); (try clear hz9); (try clear hsgm); (try clear hsq); (try clear n3_); (try clear c14_); (try clear hwa); (try clear c2_); (try clear ho2); (try clear hDn); (try clear hg2); (try clear hgb); (try clear hrm2); (try clear hrm); (try clear ho1); (try clear hg1); (try clear hv1); (try clear hqb3); (try clear hqb2); (try clear hqb); (try clear hsz); (try clear s₁); (try clear hw); (try clear h96); omega) | omega)) (by (first | ((try clear e5); (try clear hgb2); (try clear SO5); (try clear SO4); (try clear SO3); (try clear SO2); (try clear SO1); (try clear SO); (try clear c43_); (try clear hra); (try clear hμa); (try clear μa); (try clear hz9); (try clear hsgm); (try clear hsq); (try clear n3_); (try clear n2_); (try clear n1_); (try clear c14_); (try clear hwa); (try clear c2_); (try clear ho2); (try clear hg2); (try clear hv0); (try clear hrm2); (try clear hrm); (try clear ho1); (try clear hg1); (try clear hv1); (try clear hqb3); (try clear hqb2); (try clear hqb); (try clear hsz); (try clear s₁); (try clear hw); (try clear h96); omega) | omega)) (by exact SO1)) (cwV 3 hts (gV_G k824 k825 k826 k3 k827) rfl rfl rfl (by decide +kernel) ⟨Nat.le_of_ble_eq_true rfl, Nat.le_of_ble_eq_true rfl⟩) ⟨fun a U g mk q => by obtain ⟨q0, q1, qP, qK, qM⟩ := q; exact ⟨q0, q1, qP, va_K.moved (u := U) (U := U.calling g mk a) (Vm.Alike.refl U.vm) qK, qM⟩, va_recv hK hP (ci := 4) (q0 := q3) rfl ((fw_get (by (first | ((try clear mk); (try clear g); (try clear U); (try clear e5); (try clear hgb2); (try clear SO5); (try clear SO4); (try clear SO3); (try clear SO2); (try clear SO1); (try clear SO); (try clear c43_); (try clear hra); (try clear hμa); (try clear μa); (try clear hz9); (try clear hsgm); (try clear hsq); (try clear n3_); (try clear n2_); (try clear n1_); (try clear c14_); (try clear hwa); (try clear c2_); (try clear ho2); (try clear hDn); (try clear hg2); (try clear hgb); (try clear hv0); (try clear hrm2); (try clear hrm); (try clear ho1); (try clear hg1); (try clear hv1); (try clear hqb2); (try clear hqb); (try clear hsz); (try clear s₁); (try clear hw); (try clear h96); omega) | omega))).trans (by rw [(sE_rowO hq3)])), fun U hU hW => ⟨rfl, by rw [hU], by rw [hU]; exact hP, va_K.moved hW.alike hK, xM_warm hW hM⟩⟩ rfl rfl hl.1 rfl (lv_room (Nat.le_of_ble_eq_true rfl)) dX0_leaveOut_81 ⟨Nat.le_of_ble_eq_true rfl, Nat.le_of_ble_eq_true rfl⟩) hS (fun q _ h => fA_le hS.1 q h) (fA_le hS.1) (fun u9 t9 H1 locs ht9 hvm9 hw9 hB9 hz9 hk9 hS => ?_)
      obtain ⟨hP, -⟩ := hB9
      rw [ht9] at hP
      generalize H1 = H at hP hS ⊢
      obtain ⟨μr, eμr⟩ : ∃ x : va_M, x = u9 := ⟨_, rfl⟩
      rw [← eμr] at hP hw9
      have hμr := hw9; clear hw9
      obtain ⟨o4_, f4_⟩ := hμr
      have F4 : fr (BQ q3) μ μr := fr_trans SO2 (fr_mono f4_ (fun x y h => Or.inl h))
      have r4 : μr 41 4 = μ 41 4 := (f4_ _ _ (n41 hq3)).trans SO4
      have r5 : μr 41 5 = μ 41 5 := (f4_ _ _ (n41 hq3)).trans SO5
      have r6 := f4_ 41 6 (n41 hq3)
      refine lv_iload_n hx hb dX0_leaveOut_84 rfl (lv_at hl 6 rfl) ?_
      refine lv_iconst (v := iZ 4) hx hb dX0_leaveOut_85 rfl ?_
      refine fz_icmp_ne (tgt := 98) (by constructor <;> (first | ((try clear r6); (try clear r5); (try clear r4); (try clear f4_); (try clear o4_); (try clear hμr); (try clear x); (try clear eμr); (try clear hgb2); (try clear SO5); (try clear SO4); (try clear SO3); (try clear SO2); (try clear SO1); (try clear SO); (try clear c43_); (try clear hra); (try clear hμa); (try clear μa); (try clear hz9); (try clear hsgm); (try clear hsq); (try clear n3_); (try clear n2_); (try clear n1_); (try clear c14_); (try clear hwa); (try clear ho2); (try clear hDn); (try clear hg2); (try clear hgb); (try clear hv0); (try clear hrm2); (try clear hrm); (try clear ho1); (try clear hg1); (try clear hv1); (try clear hqb3); (try clear hqb2); (try clear hqb); (try clear hsz); (try clear s₁); (try clear hw); (try clear h96); omega) | omega)) (by decide) hx hb dX0_leaveOut_86 (by decide) (fun h9 => (by (first | ((try clear r6); (try clear r5); (try clear r4); (try clear f4_); (try clear o4_); (try clear hμr); (try clear x); (try clear eμr); (try clear hgb2); (try clear SO5); (try clear SO4); (try clear SO3); (try clear SO2); (try clear SO1); (try clear SO); (try clear c43_); (try clear hra); (try clear hμa); (try clear μa); (try clear hz9); (try clear hsgm); (try clear hsq); (try clear n3_); (try clear n2_); (try clear n1_); (try clear c14_); (try clear hwa); (try clear ho2); (try clear hDn); (try clear hg2); (try clear hgb); (try clear hv0); (try clear hrm2); (try clear hrm); (try clear ho1); (try clear hg1); (try clear hv1); (try clear hqb3); (try clear hqb2); (try clear hqb); (try clear hsz); (try clear s₁); (try clear hw); (try clear h96); omega) | omega))) (fun c86_ => ?_)
      refine lv_aload_n hx hb dX0_leaveOut_89 rfl (lv_at hl 3 rfl) ?_
      refine lv_iload hx hb dX0_leaveOut_90 (lv_at hl 0 rfl) ?_
      refine fz_put (D := (dC, dI)) (ci := 0) (ty := .int) (z := ra) (C := RX0) (T := TX0) (N := 7) hx hb hts inG0 tyX0 tyX0_ok nmX0 hown hK hP fA_in hS (k := 41) (by decide) (F := (sF41 h0)) sE_41 rfl 4 (by decide) (hts _ k186) (fun _ h9 => h9) rfl (by decide +kernel) rfl rfl (fun _ => Nat.le_of_ble_eq_true rfl) (fun _ _ => rfl) dX0_leaveOut_92 (fun H locs hP hS => ?_)
      obtain ⟨μ5, eμ5⟩ : ∃ x : va_M, x = uz μr 41 4 (ra) := ⟨_, rfl⟩
      rw [← eμ5] at hP
      refine lv_goto (tgt := 104) hx hb dX0_leaveOut_95 (by decide) ?_
      exact W.vret hx hb hr (fun t9 ht9 hW9 => ⟨⟨μ5, rfl, (by
                    try dsimp only
                    have F5 : fr (BQ q3) μ μ5 := by rw [eμ5]; exact fr_uz F4 (Or.inr ⟨rfl, by decide, by decide⟩)
                    have XB : ag μ μ5 q := ag_BQ hq ha3 F5
                    have XB2 : ag μ μ5 q2 := ag_BQ hq2 ha32 F5
                    have e6 := r6
                    rw [← show μ5 41 6 = μr 41 6 by rw [eμ5, uz_n (by decide)]] at e6
                    have A4 : μ5 41 4 = ra := by rw [eμ5, uz_s]
                    have A5 : μ5 41 5 = μ 41 5 := by rw [eμ5, uz_n (by decide)]; exact r5
                    refine ⟨F5, ⟨?_, by rw [e6]; exact SO3, ?_⟩, ?_⟩
                    · rw [vis_eq XB XB2, A4, A5]
                      exact n3_
                    · rw [e6, ag_E XB, A4]
                      refine outS_at (of_w hq3 rfl o4_ (by rw [eμ5])) ?_
                      have h9 := hsgm.2.1
                      (first | ((try clear A5); (try clear A4); (try clear e6); (try clear x); (try clear eμ5); (try clear c86_); (try clear r6); (try clear r5); (try clear r4); (try clear f4_); (try clear o4_); (try clear hμr); (try clear eμr); (try clear hgb2); (try clear SO5); (try clear SO4); (try clear SO3); (try clear SO2); (try clear SO1); (try clear SO); (try clear c43_); (try clear hra); (try clear hμa); (try clear μa); (try clear hz9); (try clear hsgm); (try clear hsq); (try clear n3_); (try clear n2_); (try clear n1_); (try clear c14_); (try clear hwa); (try clear c2_); (try clear ho2); (try clear hDn); (try clear hg2); (try clear hgb); (try clear hv0); (try clear hrm2); (try clear hrm); (try clear ho1); (try clear hg1); (try clear hv1); (try clear hqb3); (try clear hqb2); (try clear hqb); (try clear hsz); (try clear s₁); (try clear hw); (try clear h96); omega) | omega)
                    · rw [A4, A5]
                      (first | ((try clear A5); (try clear e6); (try clear x); (try clear eμ5); (try clear c86_); (try clear r6); (try clear r5); (try clear f4_); (try clear o4_); (try clear hμr); (try clear eμr); (try clear hgb2); (try clear SO5); (try clear SO4); (try clear SO3); (try clear SO2); (try clear SO1); (try clear SO); (try clear c43_); (try clear hra); (try clear hμa); (try clear hz9); (try clear hsgm); (try clear hsq); (try clear n3_); (try clear n2_); (try clear c14_); (try clear hwa); (try clear c2_); (try clear ho2); (try clear hDn); (try clear hg2); (try clear hgb); (try clear hv0); (try clear hrm2); (try clear hrm); (try clear ho1); (try clear hg1); (try clear hv1); (try clear hqb3); (try clear hqb2); (try clear hqb); (try clear hsz); (try clear s₁); (try clear hw); (try clear h96); omega) | omega)), by rw [ht9]; exact hP, va_K.moved hW9.alike hK⟩, hS.F ht9⟩) hS.2.2 dX0_leaveOut_104
    · refine lv_aload hx hb dX0_leaveOut_46 (lv_at hl 2 rfl) ?_
      refine fz_get (D := (dC, dI)) (ci := 4) (v := .ref (h0 + (q + 1))) (C := RX4) (T := TX4) (N := 8) hx hb hts inG4 hown hK hP (k := q) (by (first | ((try clear c43_); (try clear hra); (try clear hμa); (try clear μa); (try clear hz9); (try clear hsgm); (try clear hsq); (try clear n3_); (try clear n2_); (try clear n1_); (try clear c14_); (try clear hwa); (try clear c2_); (try clear ho2); (try clear hDn); (try clear hg2); (try clear hgb); (try clear hv0); (try clear hrm2); (try clear hrm); (try clear ho1); (try clear hg1); (try clear hv1); (try clear hqb3); (try clear hqb2); (try clear hsz); (try clear s₁); (try clear hw); (try clear h96); omega) | omega)) (F := (sRF h0 q)) (sE_rowO hq) rfl 0 (by decide) (hts _ k80) (fun _ h9 => h9) rfl dX0_leaveOut_48 ?_
      refine lv_iload hx hb dX0_leaveOut_51 (lv_at hl 1 rfl) ?_
      refine fz_ld (k := (q + 1)) (n := rm) hx hb hK hP 0 (by (first | ((try clear c43_); (try clear hra); (try clear hμa); (try clear μa); (try clear hz9); (try clear hsgm); (try clear hsq); (try clear n3_); (try clear n2_); (try clear n1_); (try clear c14_); (try clear hwa); (try clear c2_); (try clear ho2); (try clear hDn); (try clear hg2); (try clear hgb); (try clear hv0); (try clear hrm2); (try clear hrm); (try clear ho1); (try clear hg1); (try clear hv1); (try clear hqb3); (try clear hqb2); (try clear hsz); (try clear s₁); (try clear hw); (try clear h96); omega) | omega)) (sE_rowA (r := 1) hq (by decide)) rfl ⟨by (first | ((try clear c43_); (try clear hra); (try clear hμa); (try clear μa); (try clear hz9); (try clear hsgm); (try clear hsq); (try clear n3_); (try clear n2_); (try clear n1_); (try clear c14_); (try clear hwa); (try clear c2_); (try clear ho2); (try clear hDn); (try clear hg2); (try clear hgb); (try clear hrm2); (try clear hrm); (try clear ho1); (try clear hg1); (try clear hv1); (try clear hqb3); (try clear hqb2); (try clear hqb); (try clear hsz); (try clear s₁); (try clear hw); (try clear h96); omega) | omega), by (first | ((try clear c43_); (try clear hra); (try clear hμa); (try clear μa); (try clear hz9); (try clear hsgm); (try clear hsq); (try clear n3_); (try clear n2_); (try clear n1_); (try clear c14_); (try clear c2_); (try clear ho2); (try clear hDn); (try clear hg2); (try clear hgb); (try clear hv0); (try clear hrm2); (try clear ho1); (try clear hg1); (try clear hv1); (try clear hqb3); (try clear hqb2); (try clear hqb); (try clear hsz); (try clear s₁); (try clear hw); (try clear h96); omega) | omega)⟩ (by (first | ((try clear c43_); (try clear hra); (try clear hμa); (try clear μa); (try clear hz9); (try clear hsgm); (try clear hsq); (try clear n3_); (try clear n2_); (try clear n1_); (try clear c14_); (try clear hwa); (try clear c2_); (try clear ho2); (try clear hDn); (try clear hg2); (try clear hgb); (try clear hv0); (try clear hrm2); (try clear hrm); (try clear ho1); (try clear hg1); (try clear hv1); (try clear hqb3); (try clear hqb2); (try clear hsz); (try clear s₁); (try clear hw); (try clear h96); omega) | omega)) dX0_leaveOut_53 ?_
      refine lv_sipush (v := iZ 513) hx hb dX0_leaveOut_54 rfl ?_
      refine fz_icmp_eq (tgt := 73) (by constructor <;> (first | ((try clear c43_); (try clear hra); (try clear hμa); (try clear μa); (try clear hz9); (try clear hsgm); (try clear n3_); (try clear n2_); (try clear n1_); (try clear c14_); (try clear hwa); (try clear c2_); (try clear ho2); (try clear hDn); (try clear hg2); (try clear hgb); (try clear hv0); (try clear hrm2); (try clear hrm); (try clear ho1); (try clear hg1); (try clear hv1); (try clear hqb3); (try clear hqb2); (try clear hqb); (try clear hsz); (try clear s₁); (try clear hw); (try clear h96); omega) | omega)) (by decide) hx hb dX0_leaveOut_57 (by decide) (fun c57_ => ?_) (fun c57_ => ?_)
      · have SO : outS μ q3 rm3 (Dp (μ (q + 1)) (μ 41 4).toNat + gI (μ 41 6)) ∧ fr (BQ q3) μ μ ∧ gOK (μ 41 6) ∧ μ 41 4 = μ 41 4 ∧ μ 41 5 = μ 41 5 := by
          exact ⟨ho1, fr_rfl, hg1, rfl, rfl⟩
        obtain ⟨SO1, SO2, SO3, SO4, SO5⟩ := SO
        have hgb2 := gI_b (μ 41 6)
        have XA : ag μ μ q := ag_BQ hq ha3 SO2
        have XA2 : ag μ μ q2 := ag_BQ hq2 ha32 SO2
        refine lv_aload hx hb dX0_leaveOut_73 (lv_at hl 7 rfl) ?_
        refine lv_aload hx hb dX0_leaveOut_75 (lv_at hl 2 rfl) ?_
        refine lv_iload hx hb dX0_leaveOut_77 (lv_at hl 1 rfl) ?_
        refine lv_iload hx hb dX0_leaveOut_79 (lv_at hl 0 rfl) ?_
        refine va_callv (va_runV (As := [.ref (h0 + q), .int (iZ (μ 41 4)), .int (iZ (ra))]) (rest := []) ⟨hx, hb, hml, hown, hts⟩ (s_RputRange l dC dI cI cZ cII cIII h0 H.size μ (q3) (rm3) (q) (rm) (μ 41 4) (ra) (Dp (μ (q + 1)) (μ 41 4).toNat + gI (μ 41 6)) (hq3) (hq) (by exact ha3) (by exact rG_fr hG XA) (by rw [ag_E XA]; exact hsgm) (by
                        have e5 := ag_5 XA
                        (first | ((try clear e5); (try clear hgb2); (try clear SO5); (try clear SO4); (try clear SO3); (try clear SO2); (try clear SO1); (try clear SO); (try clear c57_); (try clear c43_); (try clear hra); (try clear hμa); (try clear hz9); (try clear hsgm); (try clear hsq); (try clear n3_); (try clear c14_); (try clear hwa); (try clear c2_); (try clear ho2); (try clear hDn); (try clear hg2); (try clear hgb); (try clear hrm2); (try clear hrm); (try clear ho1); (try clear hg1); (try clear hv1); (try clear hqb3); (try clear hqb2); (try clear hqb); (try clear hsz); (try clear s₁); (try clear hw); (try clear h96); omega) | omega)) (by (first | ((try clear e5); (try clear hgb2); (try clear SO5); (try clear SO4); (try clear SO3); (try clear SO2); (try clear SO1); (try clear SO); (try clear c57_); (try clear c43_); (try clear hra); (try clear hμa); (try clear μa); (try clear hz9); (try clear hsgm); (try clear hsq); (try clear n3_); (try clear n2_); (try clear n1_); (try clear c14_); (try clear hwa); (try clear c2_); (try clear ho2); (try clear hg2); (try clear hv0); (try clear hrm2); (try clear hrm); (try clear ho1); (try clear hg1); (try clear hv1); (try clear hqb3); (try clear hqb2); (try clear hqb); (try clear hsz); (try clear s₁); (try clear hw); (try clear h96); omega) | omega)) (by exact SO1)) (cwV 3 hts (gV_G k824 k825 k826 k3 k827) rfl rfl rfl (by decide +kernel) ⟨Nat.le_of_ble_eq_true rfl, Nat.le_of_ble_eq_true rfl⟩) ⟨fun a U g mk q => by obtain ⟨q0, q1, qP, qK, qM⟩ := q; exact ⟨q0, q1, qP, va_K.moved (u := U) (U := U.calling g mk a) (Vm.Alike.refl U.vm) qK, qM⟩, va_recv hK hP (ci := 4) (q0 := q3) rfl ((fw_get (by (first | ((try clear mk); (try clear g); (try clear U); (try clear e5); (try clear hgb2); (try clear SO5); (try clear SO4); (try clear SO3); (try clear SO2); (try clear SO1); (try clear SO); (try clear c57_); (try clear c43_); (try clear hra); (try clear hμa); (try clear μa); (try clear hz9); (try clear hsgm); (try clear hsq); (try clear n3_); (try clear n2_); (try clear n1_); (try clear c14_); (try clear hwa); (try clear c2_); (try clear ho2); (try clear hDn); (try clear hg2); (try clear hgb); (try clear hv0); (try clear hrm2); (try clear hrm); (try clear ho1); (try clear hg1); (try clear hv1); (try clear hqb2); (try clear hqb); (try clear hsz); (try clear s₁); (try clear hw); (try clear h96); omega) | omega))).trans (by rw [(sE_rowO hq3)])), fun U hU hW => ⟨rfl, by rw [hU], by rw [hU]; exact hP, va_K.moved hW.alike hK, xM_warm hW hM⟩⟩ rfl rfl hl.1 rfl (lv_room (Nat.le_of_ble_eq_true rfl)) dX0_leaveOut_81 ⟨Nat.le_of_ble_eq_true rfl, Nat.le_of_ble_eq_true rfl⟩) hS (fun q _ h => fA_le hS.1 q h) (fA_le hS.1) (fun u9 t9 H1 locs ht9 hvm9 hw9 hB9 hz9 hk9 hS => ?_)
        obtain ⟨hP, -⟩ := hB9
        rw [ht9] at hP
        generalize H1 = H at hP hS ⊢
        obtain ⟨μr, eμr⟩ : ∃ x : va_M, x = u9 := ⟨_, rfl⟩
        rw [← eμr] at hP hw9
        have hμr := hw9; clear hw9
        obtain ⟨o4_, f4_⟩ := hμr
        have F4 : fr (BQ q3) μ μr := fr_trans SO2 (fr_mono f4_ (fun x y h => Or.inl h))
        have r4 : μr 41 4 = μ 41 4 := (f4_ _ _ (n41 hq3)).trans SO4
        have r5 : μr 41 5 = μ 41 5 := (f4_ _ _ (n41 hq3)).trans SO5
        have r6 := f4_ 41 6 (n41 hq3)
        refine lv_iload_n hx hb dX0_leaveOut_84 rfl (lv_at hl 6 rfl) ?_
        refine lv_iconst (v := iZ 4) hx hb dX0_leaveOut_85 rfl ?_
        refine fz_icmp_ne (tgt := 98) (by constructor <;> (first | ((try clear r6); (try clear r5); (try clear r4); (try clear f4_); (try clear o4_); (try clear hμr); (try clear x); (try clear eμr); (try clear hgb2); (try clear SO5); (try clear SO4); (try clear SO3); (try clear SO2); (try clear SO1); (try clear SO); (try clear c57_); (try clear c43_); (try clear hra); (try clear hμa); (try clear μa); (try clear hz9); (try clear hsgm); (try clear hsq); (try clear n3_); (try clear n2_); (try clear n1_); (try clear c14_); (try clear hwa); (try clear ho2); (try clear hDn); (try clear hg2); (try clear hgb); (try clear hv0); (try clear hrm2); (try clear hrm); (try clear ho1); (try clear hg1); (try clear hv1); (try clear hqb3); (try clear hqb2); (try clear hqb); (try clear hsz); (try clear s₁); (try clear hw); (try clear h96); omega) | omega)) (by decide) hx hb dX0_leaveOut_86 (by decide) (fun h9 => (by (first | ((try clear r6); (try clear r5); (try clear r4); (try clear f4_); (try clear o4_); (try clear hμr); (try clear x); (try clear eμr); (try clear hgb2); (try clear SO5); (try clear SO4); (try clear SO3); (try clear SO2); (try clear SO1); (try clear SO); (try clear c57_); (try clear c43_); (try clear hra); (try clear hμa); (try clear μa); (try clear hz9); (try clear hsgm); (try clear hsq); (try clear n3_); (try clear n2_); (try clear n1_); (try clear c14_); (try clear hwa); (try clear ho2); (try clear hDn); (try clear hg2); (try clear hgb); (try clear hv0); (try clear hrm2); (try clear hrm); (try clear ho1); (try clear hg1); (try clear hv1); (try clear hqb3); (try clear hqb2); (try clear hqb); (try clear hsz); (try clear s₁); (try clear hw); (try clear h96); omega) | omega))) (fun c86_ => ?_)
        refine lv_aload_n hx hb dX0_leaveOut_89 rfl (lv_at hl 3 rfl) ?_
        refine lv_iload hx hb dX0_leaveOut_90 (lv_at hl 0 rfl) ?_
        refine fz_put (D := (dC, dI)) (ci := 0) (ty := .int) (z := ra) (C := RX0) (T := TX0) (N := 7) hx hb hts inG0 tyX0 tyX0_ok nmX0 hown hK hP fA_in hS (k := 41) (by decide) (F := (sF41 h0)) sE_41 rfl 4 (by decide) (hts _ k186) (fun _ h9 => h9) rfl (by decide +kernel) rfl rfl (fun _ => Nat.le_of_ble_eq_true rfl) (fun _ _ => rfl) dX0_leaveOut_92 (fun H locs hP hS => ?_)
        obtain ⟨μ6, eμ6⟩ : ∃ x : va_M, x = uz μr 41 4 (ra) := ⟨_, rfl⟩
        rw [← eμ6] at hP
        refine lv_goto (tgt := 104) hx hb dX0_leaveOut_95 (by decide) ?_
        exact W.vret hx hb hr (fun t9 ht9 hW9 => ⟨⟨μ6, rfl, (by
                        try dsimp only
                        have F5 : fr (BQ q3) μ μ6 := by rw [eμ6]; exact fr_uz F4 (Or.inr ⟨rfl, by decide, by decide⟩)
                        have XB : ag μ μ6 q := ag_BQ hq ha3 F5
                        have XB2 : ag μ μ6 q2 := ag_BQ hq2 ha32 F5
                        have e6 := r6
                        rw [← show μ6 41 6 = μr 41 6 by rw [eμ6, uz_n (by decide)]] at e6
                        have A4 : μ6 41 4 = ra := by rw [eμ6, uz_s]
                        have A5 : μ6 41 5 = μ 41 5 := by rw [eμ6, uz_n (by decide)]; exact r5
                        refine ⟨F5, ⟨?_, by rw [e6]; exact SO3, ?_⟩, ?_⟩
                        · rw [vis_eq XB XB2, A4, A5]
                          exact n3_
                        · rw [e6, ag_E XB, A4]
                          refine outS_at (of_w hq3 rfl o4_ (by rw [eμ6])) ?_
                          have h9 := hsgm.2.1
                          (first | ((try clear A5); (try clear A4); (try clear e6); (try clear x); (try clear eμ6); (try clear c86_); (try clear r6); (try clear r5); (try clear r4); (try clear f4_); (try clear o4_); (try clear hμr); (try clear eμr); (try clear hgb2); (try clear SO5); (try clear SO4); (try clear SO3); (try clear SO2); (try clear SO1); (try clear SO); (try clear c57_); (try clear c43_); (try clear hra); (try clear hμa); (try clear μa); (try clear hz9); (try clear hsgm); (try clear hsq); (try clear n3_); (try clear n2_); (try clear n1_); (try clear c14_); (try clear hwa); (try clear c2_); (try clear ho2); (try clear hDn); (try clear hg2); (try clear hgb); (try clear hv0); (try clear hrm2); (try clear hrm); (try clear ho1); (try clear hg1); (try clear hv1); (try clear hqb3); (try clear hqb2); (try clear hqb); (try clear hsz); (try clear s₁); (try clear hw); (try clear h96); omega) | omega)
                        · rw [A4, A5]
                          (first | ((try clear A5); (try clear e6); (try clear x); (try clear eμ6); (try clear c86_); (try clear r6); (try clear r5); (try clear f4_); (try clear o4_); (try clear hμr); (try clear eμr); (try clear hgb2); (try clear SO5); (try clear SO4); (try clear SO3); (try clear SO2); (try clear SO1); (try clear SO); (try clear c57_); (try clear c43_); (try clear hra); (try clear hμa); (try clear hz9); (try clear hsgm); (try clear hsq); (try clear n3_); (try clear n2_); (try clear c14_); (try clear hwa); (try clear c2_); (try clear ho2); (try clear hDn); (try clear hg2); (try clear hgb); (try clear hv0); (try clear hrm2); (try clear hrm); (try clear ho1); (try clear hg1); (try clear hv1); (try clear hqb3); (try clear hqb2); (try clear hqb); (try clear hsz); (try clear s₁); (try clear hw); (try clear h96); omega) | omega)), by rw [ht9]; exact hP, va_K.moved hW9.alike hK⟩, hS.F ht9⟩) hS.2.2 dX0_leaveOut_104
      · refine lv_aload hx hb dX0_leaveOut_60 (lv_at hl 7 rfl) ?_
        refine lv_sipush (v := iZ 513) hx hb dX0_leaveOut_62 rfl ?_
        refine va_callv (va_runV (As := [.int (iZ (513))]) (rest := []) ⟨hx, hb, hml, hown, hts⟩ (s_Rput l dC dI cI cZ cII cIII h0 H.size μ (q3) (rm3) (513) (hq3) (by exact ho2)) (cwV 1 hts (gV_G k819 k411 k412 k3 k413) rfl rfl rfl (by decide +kernel) ⟨Nat.le_of_ble_eq_true rfl, Nat.le_of_ble_eq_true rfl⟩) ⟨fun a U g mk q => by obtain ⟨q0, q1, qP, qK, qM⟩ := q; exact ⟨q0, q1, qP, va_K.moved (u := U) (U := U.calling g mk a) (Vm.Alike.refl U.vm) qK, qM⟩, va_recv hK hP (ci := 4) (q0 := q3) rfl ((fw_get (by (first | ((try clear mk); (try clear g); (try clear U); (try clear c57_); (try clear c43_); (try clear hra); (try clear hμa); (try clear μa); (try clear hz9); (try clear hsgm); (try clear hsq); (try clear n3_); (try clear n2_); (try clear n1_); (try clear c14_); (try clear hwa); (try clear c2_); (try clear ho2); (try clear hDn); (try clear hg2); (try clear hgb); (try clear hv0); (try clear hrm2); (try clear hrm); (try clear ho1); (try clear hg1); (try clear hv1); (try clear hqb2); (try clear hqb); (try clear hsz); (try clear s₁); (try clear hw); (try clear h96); omega) | omega))).trans (by rw [(sE_rowO hq3)])), fun U hU hW => ⟨rfl, by rw [hU], by rw [hU]; exact hP, va_K.moved hW.alike hK, xM_warm hW hM⟩⟩ rfl rfl hl.1 rfl (lv_room (Nat.le_of_ble_eq_true rfl)) dX0_leaveOut_65 ⟨Nat.le_of_ble_eq_true rfl, Nat.le_of_ble_eq_true rfl⟩) hS (fun q _ h => fA_le hS.1 q h) (fA_le hS.1) (fun u9 t9 H1 locs ht9 hvm9 hw9 hB9 hz9 hk9 hS => ?_)
        obtain ⟨hP, -⟩ := hB9
        rw [ht9] at hP
        generalize H1 = H at hP hS ⊢
        obtain ⟨μo, eμo⟩ : ∃ x : va_M, x = u9 := ⟨_, rfl⟩
        rw [← eμo] at hP hw9
        have hμo := hw9; clear hw9
        obtain ⟨c1, c2⟩ := hμo
        rw [show μ 41 6 = 0 by (first | ((try clear c2); (try clear c1); (try clear hμo); (try clear x); (try clear eμo); (try clear μo); (try clear hz9); (try clear c57_); (try clear hra); (try clear hμa); (try clear ra); (try clear μa); (try clear hsgm); (try clear hsq); (try clear n3_); (try clear n2_); (try clear n1_); (try clear c14_); (try clear hwa); (try clear c2_); (try clear ho2); (try clear hDn); (try clear hg2); (try clear hgb); (try clear hv0); (try clear hrm2); (try clear hrm); (try clear ho1); (try clear hg1); (try clear hv1); (try clear hqb3); (try clear hqb2); (try clear hqb); (try clear hsz); (try clear s₁); (try clear hw); (try clear h96); omega) | omega), gI_0, Int.add_zero] at ho1
        obtain ⟨o1_, f1_⟩ := outS_put ho1 (s := 513) (by unfold vS; (first | ((try clear f1_); (try clear o1_); (try clear c2); (try clear c1); (try clear hμo); (try clear x); (try clear eμo); (try clear μo); (try clear hz9); (try clear c57_); (try clear c43_); (try clear hra); (try clear hμa); (try clear μa); (try clear hsgm); (try clear hsq); (try clear n3_); (try clear n2_); (try clear n1_); (try clear c14_); (try clear hwa); (try clear c2_); (try clear ho2); (try clear hDn); (try clear hg2); (try clear hgb); (try clear hv0); (try clear hrm2); (try clear hrm); (try clear ho1); (try clear hg1); (try clear hv1); (try clear hqb3); (try clear hqb2); (try clear hqb); (try clear hsz); (try clear s₁); (try clear hw); (try clear h96); omega) | omega)) (by rw [dl_1 (Or.inl rfl)]; (first | ((try clear f1_); (try clear o1_); (try clear c2); (try clear c1); (try clear hμo); (try clear x); (try clear eμo); (try clear μo); (try clear hz9); (try clear c57_); (try clear c43_); (try clear hra); (try clear hμa); (try clear μa); (try clear hsgm); (try clear hsq); (try clear n3_); (try clear n2_); (try clear n1_); (try clear c14_); (try clear hwa); (try clear c2_); (try clear ho2); (try clear hg2); (try clear hgb); (try clear hv0); (try clear hrm2); (try clear hrm); (try clear ho1); (try clear hg1); (try clear hv1); (try clear hqb3); (try clear hqb2); (try clear hqb); (try clear hsz); (try clear s₁); (try clear hw); (try clear h96); omega) | omega)) c1 c2
        rw [dl_1 (Or.inl rfl)] at o1_
        refine lv_aload_n hx hb dX0_leaveOut_68 rfl (lv_at hl 3 rfl) ?_
        refine lv_iload_n hx hb dX0_leaveOut_69 rfl (lv_at hl 6 rfl) ?_
        refine fz_put (D := (dC, dI)) (ci := 0) (ty := .int) (z := wy) (C := RX0) (T := TX0) (N := 7) hx hb hts inG0 tyX0 tyX0_ok nmX0 hown hK hP fA_in hS (k := 41) (by decide) (F := (sF41 h0)) sE_41 rfl 6 (by decide) (hts _ k188) (fun _ h9 => h9) rfl (by decide +kernel) rfl rfl (fun _ => Nat.le_of_ble_eq_true rfl) (fun _ _ => rfl) dX0_leaveOut_70 (fun H locs hP hS => ?_)
        obtain ⟨μ7, eμ7⟩ : ∃ x : va_M, x = uz μo 41 6 (wy) := ⟨_, rfl⟩
        rw [← eμ7] at hP
        have SO : outS μ7 q3 rm3 (Dp (μ (q + 1)) (μ 41 4).toNat + gI (μ7 41 6)) ∧ fr (BQ q3) μ μ7 ∧ gOK (μ7 41 6) ∧ μ7 41 4 = μ 41 4 ∧ μ7 41 5 = μ 41 5 := by
          have e6 : μ7 41 6 = wy := by rw [eμ7, uz_s]
          have e4 : μ7 41 4 = μ 41 4 := by rw [eμ7, uz_n (by decide)]; exact f1_ _ _ (n41 hq3)
          have e5 : μ7 41 5 = μ 41 5 := by rw [eμ7, uz_n (by decide)]; exact f1_ _ _ (n41 hq3)
          rw [e6, gI_n (by (first | ((try clear e5); (try clear e4); (try clear e6); (try clear SO); (try clear μo); (try clear x); (try clear eμ7); (try clear f1_); (try clear o1_); (try clear c2); (try clear c1); (try clear hμo); (try clear eμo); (try clear hz9); (try clear c57_); (try clear c43_); (try clear hra); (try clear hμa); (try clear μa); (try clear hsgm); (try clear hsq); (try clear n3_); (try clear n2_); (try clear n1_); (try clear c14_); (try clear hwa); (try clear ho2); (try clear hDn); (try clear hg2); (try clear hgb); (try clear hv0); (try clear hrm2); (try clear hrm); (try clear ho1); (try clear hg1); (try clear hv1); (try clear hqb3); (try clear hqb2); (try clear hqb); (try clear hsz); (try clear s₁); (try clear hw); (try clear h96); omega) | omega))]
          exact ⟨of_w hq3 rfl o1_ (by rw [eμ7]), by rw [eμ7]; exact fr_uz (fr_mono f1_ (fun x y h => Or.inl h)) (Or.inr ⟨rfl, by decide, by decide⟩), hgw, e4, e5⟩
        obtain ⟨SO1, SO2, SO3, SO4, SO5⟩ := SO
        have hgb2 := gI_b (μ7 41 6)
        have XA : ag μ μ7 q := ag_BQ hq ha3 SO2
        have XA2 : ag μ μ7 q2 := ag_BQ hq2 ha32 SO2
        refine lv_aload hx hb dX0_leaveOut_73 (lv_at hl 7 rfl) ?_
        refine lv_aload hx hb dX0_leaveOut_75 (lv_at hl 2 rfl) ?_
        refine lv_iload hx hb dX0_leaveOut_77 (lv_at hl 1 rfl) ?_
        refine lv_iload hx hb dX0_leaveOut_79 (lv_at hl 0 rfl) ?_
        refine va_callv (va_runV (As := [.ref (h0 + q), .int (iZ (μ 41 4)), .int (iZ (ra))]) (rest := []) ⟨hx, hb, hml, hown, hts⟩ (s_RputRange l dC dI cI cZ cII cIII h0 H.size μ7 (q3) (rm3) (q) (rm) (μ 41 4) (ra) (Dp (μ (q + 1)) (μ 41 4).toNat + gI (μ7 41 6)) (hq3) (hq) (by exact ha3) (by exact rG_fr hG XA) (by rw [ag_E XA]; exact hsgm) (by
                        have e5 := ag_5 XA
                        (first | ((try clear hgb2); (try clear SO5); (try clear SO3); (try clear SO2); (try clear SO1); (try clear SO); (try clear μo); (try clear x); (try clear eμ7); (try clear f1_); (try clear o1_); (try clear c2); (try clear c1); (try clear hμo); (try clear eμo); (try clear hz9); (try clear c57_); (try clear c43_); (try clear hra); (try clear hμa); (try clear hsgm); (try clear hsq); (try clear n3_); (try clear c14_); (try clear hwa); (try clear c2_); (try clear ho2); (try clear hDn); (try clear hg2); (try clear hgb); (try clear hrm2); (try clear hrm); (try clear ho1); (try clear hg1); (try clear hv1); (try clear hqb3); (try clear hqb2); (try clear hqb); (try clear hsz); (try clear s₁); (try clear hw); (try clear h96); omega) | omega)) (by (first | ((try clear e5); (try clear SO5); (try clear SO4); (try clear SO3); (try clear SO2); (try clear SO1); (try clear SO); (try clear μo); (try clear x); (try clear eμ7); (try clear f1_); (try clear o1_); (try clear c2); (try clear c1); (try clear hμo); (try clear eμo); (try clear hz9); (try clear c57_); (try clear c43_); (try clear hra); (try clear hμa); (try clear μa); (try clear hsgm); (try clear hsq); (try clear n3_); (try clear n2_); (try clear n1_); (try clear c14_); (try clear hwa); (try clear c2_); (try clear ho2); (try clear hg2); (try clear hgb); (try clear hv0); (try clear hrm2); (try clear hrm); (try clear ho1); (try clear hg1); (try clear hv1); (try clear hqb3); (try clear hqb2); (try clear hqb); (try clear hsz); (try clear s₁); (try clear hw); (try clear h96); omega) | omega)) (by exact SO1)) (cwV 3 hts (gV_G k824 k825 k826 k3 k827) rfl rfl rfl (by decide +kernel) ⟨Nat.le_of_ble_eq_true rfl, Nat.le_of_ble_eq_true rfl⟩) ⟨fun a U g mk q => by obtain ⟨q0, q1, qP, qK, qM⟩ := q; exact ⟨q0, q1, qP, va_K.moved (u := U) (U := U.calling g mk a) (Vm.Alike.refl U.vm) qK, qM⟩, va_recv hK hP (ci := 4) (q0 := q3) rfl ((fw_get (by (first | ((try clear mk); (try clear g); (try clear U); (try clear e5); (try clear hgb2); (try clear SO5); (try clear SO4); (try clear SO3); (try clear SO2); (try clear SO1); (try clear SO); (try clear μo); (try clear x); (try clear eμ7); (try clear f1_); (try clear o1_); (try clear c2); (try clear c1); (try clear hμo); (try clear eμo); (try clear hz9); (try clear c57_); (try clear c43_); (try clear hra); (try clear hμa); (try clear μa); (try clear hsgm); (try clear hsq); (try clear n3_); (try clear n2_); (try clear n1_); (try clear c14_); (try clear hwa); (try clear c2_); (try clear ho2); (try clear hDn); (try clear hg2); (try clear hgb); (try clear hv0); (try clear hrm2); (try clear hrm); (try clear ho1); (try clear hg1); (try clear hv1); (try clear hqb2); (try clear hqb); (try clear hsz); (try clear s₁); (try clear hw); (try clear h96); omega) | omega))).trans (by rw [(sE_rowO hq3)])), fun U hU hW => ⟨rfl, by rw [hU], by rw [hU]; exact hP, va_K.moved hW.alike hK, xM_warm hW hM⟩⟩ rfl rfl hl.1 rfl (lv_room (Nat.le_of_ble_eq_true rfl)) dX0_leaveOut_81 ⟨Nat.le_of_ble_eq_true rfl, Nat.le_of_ble_eq_true rfl⟩) hS (fun q _ h => fA_le hS.1 q h) (fA_le hS.1) (fun u9 t9 H1 locs ht9 hvm9 hw9 hB9 hz9 hk9 hS => ?_)
        obtain ⟨hP, -⟩ := hB9
        rw [ht9] at hP
        generalize H1 = H at hP hS ⊢
        obtain ⟨μr, eμr⟩ : ∃ x : va_M, x = u9 := ⟨_, rfl⟩
        rw [← eμr] at hP hw9
        have hμr := hw9; clear hw9
        obtain ⟨o4_, f4_⟩ := hμr
        have F4 : fr (BQ q3) μ μr := fr_trans SO2 (fr_mono f4_ (fun x y h => Or.inl h))
        have r4 : μr 41 4 = μ 41 4 := (f4_ _ _ (n41 hq3)).trans SO4
        have r5 : μr 41 5 = μ 41 5 := (f4_ _ _ (n41 hq3)).trans SO5
        have r6 := f4_ 41 6 (n41 hq3)
        refine lv_iload_n hx hb dX0_leaveOut_84 rfl (lv_at hl 6 rfl) ?_
        refine lv_iconst (v := iZ 4) hx hb dX0_leaveOut_85 rfl ?_
        refine fz_icmp_ne (tgt := 98) (by constructor <;> (first | ((try clear r6); (try clear r5); (try clear r4); (try clear f4_); (try clear o4_); (try clear hμr); (try clear x); (try clear eμr); (try clear hgb2); (try clear SO5); (try clear SO4); (try clear SO3); (try clear SO2); (try clear SO1); (try clear SO); (try clear μo); (try clear eμ7); (try clear f1_); (try clear o1_); (try clear c2); (try clear c1); (try clear hμo); (try clear eμo); (try clear hz9); (try clear c57_); (try clear c43_); (try clear hra); (try clear hμa); (try clear μa); (try clear hsgm); (try clear hsq); (try clear n3_); (try clear n2_); (try clear n1_); (try clear c14_); (try clear hwa); (try clear ho2); (try clear hDn); (try clear hg2); (try clear hgb); (try clear hv0); (try clear hrm2); (try clear hrm); (try clear ho1); (try clear hg1); (try clear hv1); (try clear hqb3); (try clear hqb2); (try clear hqb); (try clear hsz); (try clear s₁); (try clear hw); (try clear h96); omega) | omega)) (by decide) hx hb dX0_leaveOut_86 (by decide) (fun h9 => (by (first | ((try clear r6); (try clear r5); (try clear r4); (try clear f4_); (try clear o4_); (try clear hμr); (try clear x); (try clear eμr); (try clear hgb2); (try clear SO5); (try clear SO4); (try clear SO3); (try clear SO2); (try clear SO1); (try clear SO); (try clear μo); (try clear eμ7); (try clear f1_); (try clear o1_); (try clear c2); (try clear c1); (try clear hμo); (try clear eμo); (try clear hz9); (try clear c57_); (try clear c43_); (try clear hra); (try clear hμa); (try clear μa); (try clear hsgm); (try clear hsq); (try clear n3_); (try clear n2_); (try clear n1_); (try clear c14_); (try clear hwa); (try clear ho2); (try clear hDn); (try clear hg2); (try clear hgb); (try clear hv0); (try clear hrm2); (try clear hrm); (try clear ho1); (try clear hg1); (try clear hv1); (try clear hqb3); (try clear hqb2); (try clear hqb); (try clear hsz); (try clear s₁); (try clear hw); (try clear h96); omega) | omega))) (fun c86_ => ?_)
        refine lv_aload_n hx hb dX0_leaveOut_89 rfl (lv_at hl 3 rfl) ?_
        refine lv_iload hx hb dX0_leaveOut_90 (lv_at hl 0 rfl) ?_
        refine fz_put (D := (dC, dI)) (ci := 0) (ty := .int) (z := ra) (C := RX0) (T := TX0) (N := 7) hx hb hts inG0 tyX0 tyX0_ok nmX0 hown hK hP fA_in hS (k := 41) (by decide) (F := (sF41 h0)) sE_41 rfl 4 (by decide) (hts _ k186) (fun _ h9 => h9) rfl (by decide +kernel) rfl rfl (fun _ => Nat.le_of_ble_eq_true rfl) (fun _ _ => rfl) dX0_leaveOut_92 (fun H locs hP hS => ?_)
        obtain ⟨μ8, eμ8⟩ : ∃ x : va_M, x = uz μr 41 4 (ra) := ⟨_, rfl⟩
        rw [← eμ8] at hP
        refine lv_goto (tgt := 104) hx hb dX0_leaveOut_95 (by decide) ?_
        exact W.vret hx hb hr (fun t9 ht9 hW9 => ⟨⟨μ8, rfl, (by
                        try dsimp only
                        have F5 : fr (BQ q3) μ μ8 := by rw [eμ8]; exact fr_uz F4 (Or.inr ⟨rfl, by decide, by decide⟩)
                        have XB : ag μ μ8 q := ag_BQ hq ha3 F5
                        have XB2 : ag μ μ8 q2 := ag_BQ hq2 ha32 F5
                        have e6 := r6
                        rw [← show μ8 41 6 = μr 41 6 by rw [eμ8, uz_n (by decide)]] at e6
                        have A4 : μ8 41 4 = ra := by rw [eμ8, uz_s]
                        have A5 : μ8 41 5 = μ 41 5 := by rw [eμ8, uz_n (by decide)]; exact r5
                        refine ⟨F5, ⟨?_, by rw [e6]; exact SO3, ?_⟩, ?_⟩
                        · rw [vis_eq XB XB2, A4, A5]
                          exact n3_
                        · rw [e6, ag_E XB, A4]
                          refine outS_at (of_w hq3 rfl o4_ (by rw [eμ8])) ?_
                          have h9 := hsgm.2.1
                          (first | ((try clear A5); (try clear A4); (try clear e6); (try clear x); (try clear eμ8); (try clear c86_); (try clear r6); (try clear r5); (try clear r4); (try clear f4_); (try clear o4_); (try clear hμr); (try clear eμr); (try clear hgb2); (try clear SO5); (try clear SO4); (try clear SO3); (try clear SO2); (try clear SO1); (try clear SO); (try clear μo); (try clear eμ7); (try clear f1_); (try clear o1_); (try clear c2); (try clear c1); (try clear hμo); (try clear eμo); (try clear hz9); (try clear c57_); (try clear c43_); (try clear hra); (try clear hμa); (try clear μa); (try clear hsgm); (try clear hsq); (try clear n3_); (try clear n2_); (try clear n1_); (try clear c14_); (try clear hwa); (try clear c2_); (try clear ho2); (try clear hDn); (try clear hg2); (try clear hgb); (try clear hv0); (try clear hrm2); (try clear hrm); (try clear ho1); (try clear hg1); (try clear hv1); (try clear hqb3); (try clear hqb2); (try clear hqb); (try clear hsz); (try clear s₁); (try clear hw); (try clear h96); omega) | omega)
                        · rw [A4, A5]
                          (first | ((try clear A5); (try clear e6); (try clear x); (try clear eμ8); (try clear c86_); (try clear r6); (try clear r5); (try clear f4_); (try clear o4_); (try clear hμr); (try clear eμr); (try clear hgb2); (try clear SO5); (try clear SO3); (try clear SO2); (try clear SO1); (try clear SO); (try clear μo); (try clear eμ7); (try clear f1_); (try clear o1_); (try clear c2); (try clear c1); (try clear hμo); (try clear eμo); (try clear hz9); (try clear c57_); (try clear c43_); (try clear hra); (try clear hμa); (try clear hsgm); (try clear hsq); (try clear n3_); (try clear n2_); (try clear c14_); (try clear hwa); (try clear c2_); (try clear ho2); (try clear hDn); (try clear hg2); (try clear hgb); (try clear hv0); (try clear hrm2); (try clear hrm); (try clear ho1); (try clear hg1); (try clear hv1); (try clear hqb3); (try clear hqb2); (try clear hqb); (try clear hsz); (try clear s₁); (try clear hw); (try clear h96); omega) | omega)), by rw [ht9]; exact hP, va_K.moved hW9.alike hK⟩, hS.F ht9⟩) hS.2.2 dX0_leaveOut_104

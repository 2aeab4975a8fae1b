theorem dX10_joinsTwo_0 : decode cX10_joinsTwo 0 = .ok (.aload_n 0, 1) := by decide +kernel
theorem dX10_joinsTwo_1 : decode cX10_joinsTwo 1 = .ok (.bipush 52, 2) := by decide +kernel
theorem dX10_joinsTwo_3 : decode cX10_joinsTwo 3 = .ok (.invokevirtual 197, 3) := by decide +kernel
theorem dX10_joinsTwo_6 : decode cX10_joinsTwo 6 = .ok (.iconst 0, 1) := by decide +kernel
theorem dX10_joinsTwo_7 : decode cX10_joinsTwo 7 = .ok (.istore 4, 2) := by decide +kernel
theorem dX10_joinsTwo_9 : decode cX10_joinsTwo 9 = .ok (.iload 4, 2) := by decide +kernel
theorem dX10_joinsTwo_11 : decode cX10_joinsTwo 11 = .ok (.iload_n 3, 1) := by decide +kernel
theorem dX10_joinsTwo_12 : decode cX10_joinsTwo 12 = .ok (.if_icmp .ge 25, 3) := by decide +kernel
theorem dX10_joinsTwo_15 : decode cX10_joinsTwo 15 = .ok (.aload_n 0, 1) := by decide +kernel
theorem dX10_joinsTwo_16 : decode cX10_joinsTwo 16 = .ok (.iload_n 1, 1) := by decide +kernel
theorem dX10_joinsTwo_17 : decode cX10_joinsTwo 17 = .ok (.aload_n 0, 1) := by decide +kernel
theorem dX10_joinsTwo_18 : decode cX10_joinsTwo 18 = .ok (.getfield 64, 3) := by decide +kernel
theorem dX10_joinsTwo_21 : decode cX10_joinsTwo 21 = .ok (.iconst 0, 1) := by decide +kernel
theorem dX10_joinsTwo_22 : decode cX10_joinsTwo 22 = .ok (.aaload, 1) := by decide +kernel
theorem dX10_joinsTwo_23 : decode cX10_joinsTwo 23 = .ok (.iload 4, 2) := by decide +kernel
theorem dX10_joinsTwo_25 : decode cX10_joinsTwo 25 = .ok (.iaload, 1) := by decide +kernel
theorem dX10_joinsTwo_26 : decode cX10_joinsTwo 26 = .ok (.bipush 52, 2) := by decide +kernel
theorem dX10_joinsTwo_28 : decode cX10_joinsTwo 28 = .ok (.invokevirtual 200, 3) := by decide +kernel
theorem dX10_joinsTwo_31 : decode cX10_joinsTwo 31 = .ok (.iinc 4 1, 3) := by decide +kernel
theorem dX10_joinsTwo_34 : decode cX10_joinsTwo 34 = .ok (.goto (-25), 3) := by decide +kernel
theorem dX10_joinsTwo_37 : decode cX10_joinsTwo 37 = .ok (.aload_n 0, 1) := by decide +kernel
theorem dX10_joinsTwo_38 : decode cX10_joinsTwo 38 = .ok (.iload_n 1, 1) := by decide +kernel
theorem dX10_joinsTwo_39 : decode cX10_joinsTwo 39 = .ok (.aload_n 0, 1) := by decide +kernel
theorem dX10_joinsTwo_40 : decode cX10_joinsTwo 40 = .ok (.getfield 64, 3) := by decide +kernel
theorem dX10_joinsTwo_43 : decode cX10_joinsTwo 43 = .ok (.iconst 0, 1) := by decide +kernel
theorem dX10_joinsTwo_44 : decode cX10_joinsTwo 44 = .ok (.aaload, 1) := by decide +kernel
theorem dX10_joinsTwo_45 : decode cX10_joinsTwo 45 = .ok (.iload_n 3, 1) := by decide +kernel
theorem dX10_joinsTwo_46 : decode cX10_joinsTwo 46 = .ok (.iaload, 1) := by decide +kernel
theorem dX10_joinsTwo_47 : decode cX10_joinsTwo 47 = .ok (.iload_n 1, 1) := by decide +kernel
theorem dX10_joinsTwo_48 : decode cX10_joinsTwo 48 = .ok (.aload_n 0, 1) := by decide +kernel
theorem dX10_joinsTwo_49 : decode cX10_joinsTwo 49 = .ok (.getfield 64, 3) := by decide +kernel
theorem dX10_joinsTwo_52 : decode cX10_joinsTwo 52 = .ok (.iconst 0, 1) := by decide +kernel
theorem dX10_joinsTwo_53 : decode cX10_joinsTwo 53 = .ok (.aaload, 1) := by decide +kernel
theorem dX10_joinsTwo_54 : decode cX10_joinsTwo 54 = .ok (.iload_n 3, 1) := by decide +kernel
theorem dX10_joinsTwo_55 : decode cX10_joinsTwo 55 = .ok (.iconst 1, 1) := by decide +kernel
theorem dX10_joinsTwo_56 : decode cX10_joinsTwo 56 = .ok (.iadd, 1) := by decide +kernel
theorem dX10_joinsTwo_57 : decode cX10_joinsTwo 57 = .ok (.iaload, 1) := by decide +kernel
theorem dX10_joinsTwo_58 : decode cX10_joinsTwo 58 = .ok (.bipush 52, 2) := by decide +kernel
theorem dX10_joinsTwo_60 : decode cX10_joinsTwo 60 = .ok (.invokevirtual 215, 3) := by decide +kernel
theorem dX10_joinsTwo_63 : decode cX10_joinsTwo 63 = .ok (.pop, 1) := by decide +kernel
theorem dX10_joinsTwo_64 : decode cX10_joinsTwo 64 = .ok (.iload_n 3, 1) := by decide +kernel
theorem dX10_joinsTwo_65 : decode cX10_joinsTwo 65 = .ok (.iconst 2, 1) := by decide +kernel
theorem dX10_joinsTwo_66 : decode cX10_joinsTwo 66 = .ok (.iadd, 1) := by decide +kernel
theorem dX10_joinsTwo_67 : decode cX10_joinsTwo 67 = .ok (.istore 4, 2) := by decide +kernel
theorem dX10_joinsTwo_69 : decode cX10_joinsTwo 69 = .ok (.iload 4, 2) := by decide +kernel
theorem dX10_joinsTwo_71 : decode cX10_joinsTwo 71 = .ok (.iload_n 2, 1) := by decide +kernel
theorem dX10_joinsTwo_72 : decode cX10_joinsTwo 72 = .ok (.if_icmp .ge 25, 3) := by decide +kernel
theorem dX10_joinsTwo_75 : decode cX10_joinsTwo 75 = .ok (.aload_n 0, 1) := by decide +kernel
theorem dX10_joinsTwo_76 : decode cX10_joinsTwo 76 = .ok (.iload_n 1, 1) := by decide +kernel
theorem dX10_joinsTwo_77 : decode cX10_joinsTwo 77 = .ok (.aload_n 0, 1) := by decide +kernel
theorem dX10_joinsTwo_78 : decode cX10_joinsTwo 78 = .ok (.getfield 64, 3) := by decide +kernel
theorem dX10_joinsTwo_81 : decode cX10_joinsTwo 81 = .ok (.iconst 0, 1) := by decide +kernel
theorem dX10_joinsTwo_82 : decode cX10_joinsTwo 82 = .ok (.aaload, 1) := by decide +kernel
theorem dX10_joinsTwo_83 : decode cX10_joinsTwo 83 = .ok (.iload 4, 2) := by decide +kernel
theorem dX10_joinsTwo_85 : decode cX10_joinsTwo 85 = .ok (.iaload, 1) := by decide +kernel
theorem dX10_joinsTwo_86 : decode cX10_joinsTwo 86 = .ok (.bipush 52, 2) := by decide +kernel
theorem dX10_joinsTwo_88 : decode cX10_joinsTwo 88 = .ok (.invokevirtual 200, 3) := by decide +kernel
theorem dX10_joinsTwo_91 : decode cX10_joinsTwo 91 = .ok (.iinc 4 1, 3) := by decide +kernel
theorem dX10_joinsTwo_94 : decode cX10_joinsTwo 94 = .ok (.goto (-25), 3) := by decide +kernel
theorem dX10_joinsTwo_97 : decode cX10_joinsTwo 97 = .ok (.aload_n 0, 1) := by decide +kernel
theorem dX10_joinsTwo_98 : decode cX10_joinsTwo 98 = .ok (.bipush 52, 2) := by decide +kernel
theorem dX10_joinsTwo_100 : decode cX10_joinsTwo 100 = .ok (.iload_n 1, 1) := by decide +kernel
theorem dX10_joinsTwo_101 : decode cX10_joinsTwo 101 = .ok (.invokevirtual 241, 3) := by decide +kernel
theorem dX10_joinsTwo_104 : decode cX10_joinsTwo 104 = .ok (.return_, 1) := by decide +kernel
theorem dX10_takesIn_0 : decode cX10_takesIn 0 = .ok (.aload_n 0, 1) := by decide +kernel
theorem dX10_takesIn_1 : decode cX10_takesIn 1 = .ok (.iload_n 1, 1) := by decide +kernel
theorem dX10_takesIn_2 : decode cX10_takesIn 2 = .ok (.aload_n 0, 1) := by decide +kernel
theorem dX10_takesIn_3 : decode cX10_takesIn 3 = .ok (.getfield 64, 3) := by decide +kernel
theorem dX10_takesIn_6 : decode cX10_takesIn 6 = .ok (.iconst 0, 1) := by decide +kernel
theorem dX10_takesIn_7 : decode cX10_takesIn 7 = .ok (.aaload, 1) := by decide +kernel
theorem dX10_takesIn_8 : decode cX10_takesIn 8 = .ok (.iload_n 3, 1) := by decide +kernel
theorem dX10_takesIn_9 : decode cX10_takesIn 9 = .ok (.iaload, 1) := by decide +kernel
theorem dX10_takesIn_10 : decode cX10_takesIn 10 = .ok (.invokevirtual 207, 3) := by decide +kernel
theorem dX10_takesIn_13 : decode cX10_takesIn 13 = .ok (.istore 5, 2) := by decide +kernel
theorem dX10_takesIn_15 : decode cX10_takesIn 15 = .ok (.iload 4, 2) := by decide +kernel
theorem dX10_takesIn_17 : decode cX10_takesIn 17 = .ok (.ifCond .eq 10, 3) := by decide +kernel
theorem dX10_takesIn_20 : decode cX10_takesIn 20 = .ok (.iload_n 3, 1) := by decide +kernel
theorem dX10_takesIn_21 : decode cX10_takesIn 21 = .ok (.iload 5, 2) := by decide +kernel
theorem dX10_takesIn_23 : decode cX10_takesIn 23 = .ok (.isub, 1) := by decide +kernel
theorem dX10_takesIn_24 : decode cX10_takesIn 24 = .ok (.goto 6, 3) := by decide +kernel
theorem dX10_takesIn_27 : decode cX10_takesIn 27 = .ok (.iload_n 3, 1) := by decide +kernel
theorem dX10_takesIn_28 : decode cX10_takesIn 28 = .ok (.iconst 1, 1) := by decide +kernel
theorem dX10_takesIn_29 : decode cX10_takesIn 29 = .ok (.iadd, 1) := by decide +kernel
theorem dX10_takesIn_30 : decode cX10_takesIn 30 = .ok (.istore 6, 2) := by decide +kernel
theorem dX10_takesIn_32 : decode cX10_takesIn 32 = .ok (.aload_n 0, 1) := by decide +kernel
theorem dX10_takesIn_33 : decode cX10_takesIn 33 = .ok (.bipush 52, 2) := by decide +kernel
theorem dX10_takesIn_35 : decode cX10_takesIn 35 = .ok (.invokevirtual 197, 3) := by decide +kernel
theorem dX10_takesIn_38 : decode cX10_takesIn 38 = .ok (.iconst 0, 1) := by decide +kernel
theorem dX10_takesIn_39 : decode cX10_takesIn 39 = .ok (.istore 7, 2) := by decide +kernel
theorem dX10_takesIn_41 : decode cX10_takesIn 41 = .ok (.iload 7, 2) := by decide +kernel
theorem dX10_takesIn_43 : decode cX10_takesIn 43 = .ok (.iload 4, 2) := by decide +kernel
theorem dX10_takesIn_45 : decode cX10_takesIn 45 = .ok (.ifCond .eq 8, 3) := by decide +kernel
theorem dX10_takesIn_48 : decode cX10_takesIn 48 = .ok (.iload 6, 2) := by decide +kernel
theorem dX10_takesIn_50 : decode cX10_takesIn 50 = .ok (.goto 4, 3) := by decide +kernel
theorem dX10_takesIn_53 : decode cX10_takesIn 53 = .ok (.iload_n 3, 1) := by decide +kernel
theorem dX10_takesIn_54 : decode cX10_takesIn 54 = .ok (.if_icmp .ge 25, 3) := by decide +kernel
theorem dX10_takesIn_57 : decode cX10_takesIn 57 = .ok (.aload_n 0, 1) := by decide +kernel
theorem dX10_takesIn_58 : decode cX10_takesIn 58 = .ok (.iload_n 1, 1) := by decide +kernel
theorem dX10_takesIn_59 : decode cX10_takesIn 59 = .ok (.aload_n 0, 1) := by decide +kernel
theorem dX10_takesIn_60 : decode cX10_takesIn 60 = .ok (.getfield 64, 3) := by decide +kernel
theorem dX10_takesIn_63 : decode cX10_takesIn 63 = .ok (.iconst 0, 1) := by decide +kernel
theorem dX10_takesIn_64 : decode cX10_takesIn 64 = .ok (.aaload, 1) := by decide +kernel
theorem dX10_takesIn_65 : decode cX10_takesIn 65 = .ok (.iload 7, 2) := by decide +kernel
theorem dX10_takesIn_67 : decode cX10_takesIn 67 = .ok (.iaload, 1) := by decide +kernel
theorem dX10_takesIn_68 : decode cX10_takesIn 68 = .ok (.bipush 52, 2) := by decide +kernel
theorem dX10_takesIn_70 : decode cX10_takesIn 70 = .ok (.invokevirtual 200, 3) := by decide +kernel
theorem dX10_takesIn_73 : decode cX10_takesIn 73 = .ok (.iinc 7 1, 3) := by decide +kernel
theorem dX10_takesIn_76 : decode cX10_takesIn 76 = .ok (.goto (-35), 3) := by decide +kernel
theorem dX10_takesIn_79 : decode cX10_takesIn 79 = .ok (.aload_n 0, 1) := by decide +kernel
theorem dX10_takesIn_80 : decode cX10_takesIn 80 = .ok (.iload_n 1, 1) := by decide +kernel
theorem dX10_takesIn_81 : decode cX10_takesIn 81 = .ok (.aload_n 0, 1) := by decide +kernel
theorem dX10_takesIn_82 : decode cX10_takesIn 82 = .ok (.getfield 64, 3) := by decide +kernel
theorem dX10_takesIn_85 : decode cX10_takesIn 85 = .ok (.iconst 0, 1) := by decide +kernel
theorem dX10_takesIn_86 : decode cX10_takesIn 86 = .ok (.aaload, 1) := by decide +kernel
theorem dX10_takesIn_87 : decode cX10_takesIn 87 = .ok (.iload_n 3, 1) := by decide +kernel
theorem dX10_takesIn_88 : decode cX10_takesIn 88 = .ok (.iaload, 1) := by decide +kernel
theorem dX10_takesIn_89 : decode cX10_takesIn 89 = .ok (.iload_n 1, 1) := by decide +kernel
theorem dX10_takesIn_90 : decode cX10_takesIn 90 = .ok (.aload_n 0, 1) := by decide +kernel
theorem dX10_takesIn_91 : decode cX10_takesIn 91 = .ok (.getfield 64, 3) := by decide +kernel
theorem dX10_takesIn_94 : decode cX10_takesIn 94 = .ok (.iconst 0, 1) := by decide +kernel
theorem dX10_takesIn_95 : decode cX10_takesIn 95 = .ok (.aaload, 1) := by decide +kernel
theorem dX10_takesIn_96 : decode cX10_takesIn 96 = .ok (.iload 6, 2) := by decide +kernel
theorem dX10_takesIn_98 : decode cX10_takesIn 98 = .ok (.bipush 52, 2) := by decide +kernel
theorem dX10_takesIn_100 : decode cX10_takesIn 100 = .ok (.invokevirtual 256, 3) := by decide +kernel
theorem dX10_takesIn_103 : decode cX10_takesIn 103 = .ok (.pop, 1) := by decide +kernel
theorem dX10_takesIn_104 : decode cX10_takesIn 104 = .ok (.iload 4, 2) := by decide +kernel
theorem dX10_takesIn_106 : decode cX10_takesIn 106 = .ok (.ifCond .eq 9, 3) := by decide +kernel
theorem dX10_takesIn_109 : decode cX10_takesIn 109 = .ok (.iload_n 3, 1) := by decide +kernel
theorem dX10_takesIn_110 : decode cX10_takesIn 110 = .ok (.iconst 1, 1) := by decide +kernel
theorem dX10_takesIn_111 : decode cX10_takesIn 111 = .ok (.iadd, 1) := by decide +kernel
theorem dX10_takesIn_112 : decode cX10_takesIn 112 = .ok (.goto 9, 3) := by decide +kernel
theorem dX10_takesIn_115 : decode cX10_takesIn 115 = .ok (.iload_n 3, 1) := by decide +kernel
theorem dX10_takesIn_116 : decode cX10_takesIn 116 = .ok (.iconst 1, 1) := by decide +kernel
theorem dX10_takesIn_117 : decode cX10_takesIn 117 = .ok (.iadd, 1) := by decide +kernel
theorem dX10_takesIn_118 : decode cX10_takesIn 118 = .ok (.iload 5, 2) := by decide +kernel
theorem dX10_takesIn_120 : decode cX10_takesIn 120 = .ok (.iadd, 1) := by decide +kernel
theorem dX10_takesIn_121 : decode cX10_takesIn 121 = .ok (.istore 7, 2) := by decide +kernel
theorem dX10_takesIn_123 : decode cX10_takesIn 123 = .ok (.iload 7, 2) := by decide +kernel
theorem dX10_takesIn_125 : decode cX10_takesIn 125 = .ok (.iload_n 2, 1) := by decide +kernel
theorem dX10_takesIn_126 : decode cX10_takesIn 126 = .ok (.if_icmp .ge 25, 3) := by decide +kernel
theorem dX10_takesIn_129 : decode cX10_takesIn 129 = .ok (.aload_n 0, 1) := by decide +kernel
theorem dX10_takesIn_130 : decode cX10_takesIn 130 = .ok (.iload_n 1, 1) := by decide +kernel
theorem dX10_takesIn_131 : decode cX10_takesIn 131 = .ok (.aload_n 0, 1) := by decide +kernel
theorem dX10_takesIn_132 : decode cX10_takesIn 132 = .ok (.getfield 64, 3) := by decide +kernel
theorem dX10_takesIn_135 : decode cX10_takesIn 135 = .ok (.iconst 0, 1) := by decide +kernel
theorem dX10_takesIn_136 : decode cX10_takesIn 136 = .ok (.aaload, 1) := by decide +kernel
theorem dX10_takesIn_137 : decode cX10_takesIn 137 = .ok (.iload 7, 2) := by decide +kernel
theorem dX10_takesIn_139 : decode cX10_takesIn 139 = .ok (.iaload, 1) := by decide +kernel
theorem dX10_takesIn_140 : decode cX10_takesIn 140 = .ok (.bipush 52, 2) := by decide +kernel
theorem dX10_takesIn_142 : decode cX10_takesIn 142 = .ok (.invokevirtual 200, 3) := by decide +kernel
theorem dX10_takesIn_145 : decode cX10_takesIn 145 = .ok (.iinc 7 1, 3) := by decide +kernel
theorem dX10_takesIn_148 : decode cX10_takesIn 148 = .ok (.goto (-25), 3) := by decide +kernel
theorem dX10_takesIn_151 : decode cX10_takesIn 151 = .ok (.aload_n 0, 1) := by decide +kernel
theorem dX10_takesIn_152 : decode cX10_takesIn 152 = .ok (.bipush 52, 2) := by decide +kernel
theorem dX10_takesIn_154 : decode cX10_takesIn 154 = .ok (.iload_n 1, 1) := by decide +kernel
theorem dX10_takesIn_155 : decode cX10_takesIn 155 = .ok (.invokevirtual 241, 3) := by decide +kernel
theorem dX10_takesIn_158 : decode cX10_takesIn 158 = .ok (.iconst 1, 1) := by decide +kernel
theorem dX10_takesIn_159 : decode cX10_takesIn 159 = .ok (.ireturn, 1) := by decide +kernel
/-! two repeats become one; a repeat takes in the items beside it -/
def rtk (w : Rw) (a : Nat) (x : Rw) (b : Nat) : Rw := rpre a w (Std.DTreeMap.Internal.Impl.inner 0 4 (-1) x (rdrop b w))
def PK (t x y : Nat) : Prop := PT 52 x y ∨ PT t x y
set_option maxHeartbeats 40000000 in
set_option maxRecDepth 100000 in
theorem LX10_joinsTwo_9 {p : Program} {l : Launch} {e : Env} {R : Room} {s : State} {m : MethodId} {args : Array Value} {below : List Frame} {meth : Method} {c : Code} {cells slots : Nat} {Q : State → Prop} {dC : Nat → ClassId} {dI : Nat → Nat → Nat} {h0 : Nat} {cI cZ cII cIII : ClassId} (hx : p.tables.exec = Jvm.exec) (hb : c.code = cX10_joinsTwo) (hml : c.maxLocals = 5) (hown : s.vm.findClass RX10 = some m.cls) (hts : ∀ w ∈ wsG, w.before args s = true) (hK : va_K (dC, dI) vwCl (mT cI cZ cII cIII) s) (hRf : 24 ≤ R.frames) (hRl : 760 ≤ R.locals) (hRc : cells ≤ R.cells) (hRs : slots ≤ R.slots) (μ0 : va_M) (t : Int) (m9 : Int) (w : Rw) (k : Int) (ht : 0 ≤ t ∧ t < 70) (hR : RA μ0 t.toNat w 0) (hN : rN w ≤ 900) (hwf : rWF w) (hHH : rH w ≤ 20) (hrow : rowIs μ0 723 w 0) (h260 : rI w ≤ 260) (ht3 : t ≠ 50 ∧ t ≠ 51 ∧ t ≠ 52) (hm9 : m9 = rI w) (ha : 0 ≤ k ∧ k ≤ rI w) (hexit37 : ∀ (ee : Int) (μ : va_M) (H : Heap) (locs : List Loc) (ls : Array Slot), (fr (PT 52) μ0 μ) → (μ 719 52 = rO w k.toNat) → (∀ (u8 : va_M) (x : Rw), agr μ u8 52 0 (rO w k.toNat) → RA u8 52 x (rO w k.toNat) → RA u8 52 (rpre k.toNat w x) 0) → va_P (dC, dI) vwCl (fw (mE cI cZ cII cIII h0) h0 6325 μ) H → va_S (fA h0 6325 s.heap.size) s.heap H locs → lv_has ls 5 [(3, .int (iZ (k))), (2, .int (iZ (m9))), (1, .int (iZ (t))), (0, .ref h0)] → W p l e R s m args below meth c H locs cells slots Q (F0 m 37 ls [])) :
    ∀ (n9 : Nat) (ee : Int) (μ : va_M) (H : Heap) (locs : List Loc) (ls : Array Slot), (0 ≤ ee ∧ ee ≤ k) → (fr (PT 52) μ0 μ) → (μ 719 52 = rO w ee.toNat) → (∀ (u8 : va_M) (x : Rw), agr μ u8 52 0 (rO w ee.toNat) → RA u8 52 x (rO w ee.toNat) → RA u8 52 (rpre ee.toNat w x) 0) → (k - ee).toNat < n9 → va_P (dC, dI) vwCl (fw (mE cI cZ cII cIII h0) h0 6325 μ) H → va_S (fA h0 6325 s.heap.size) s.heap H locs → lv_has ls 5 [(4, .int (iZ (ee))), (3, .int (iZ (k))), (2, .int (iZ (m9))), (1, .int (iZ (t))), (0, .ref h0)] → W p l e R s m args below meth c H locs cells slots Q (F0 m 9 ls []) := by
  intro n9
  induction n9 with
  | zero => intro ee μ H locs ls hk hfr hN5 hc hm9 hP hS hl; exact absurd hm9 (Nat.not_lt_zero _)
  | succ n9 ih =>
    intro ee μ H locs ls hk hfr hN5 hc hm9 hP hS hl
    refine lv_iload hx hb dX10_joinsTwo_9 (lv_at hl 0 rfl) ?_
    refine lv_iload_n hx hb dX10_joinsTwo_11 rfl (lv_at hl 1 rfl) ?_
    refine fz_icmp_ge (tgt := 37) (by constructor <;> omega) (by constructor <;> omega) hx hb dX10_joinsTwo_12 (by decide) (fun c12_ => ?_) (fun c12_ => ?_)
    · exact hexit37 (ee) μ H locs ls (by exact hfr) (by
                    have hee : ee = k := by omega
                    rw [hee] at hN5
                    exact hN5) (by
                    have hee : ee = k := by omega
                    rw [hee] at hc
                    exact hc) hP hS (lv_sub hl [1, 2, 3, 4] rfl)
    · have hIx := rdrop_I (ee.toNat) w
      have hNx := rdrop_N (ee.toNat) w
      have hHx := rdrop_H (ee.toNat) w
      have hFx := rdrop_WF (ee.toNat) w hwf
      have hRx := RA_drop (ee.toNat) w 0 hR
      obtain ⟨zx, kx, vx, lx, wx, hex⟩ := rI_pos (w := rdrop (ee.toNat) w) (by omega)
      rw [hex] at hIx hNx hHx hFx hRx
      rw [rN_in] at hNx; rw [rI_in] at hIx; rw [rH_in] at hHx
      obtain ⟨rx1, rx2, rx3, rx4, rx5⟩ := hRx
      rw [Nat.zero_add] at rx1 rx2 rx3 rx4
      have fxA : iWF kx vx lx := ⟨hFx.1, hFx.2.1, hFx.2.2.1, hFx.2.2.2.1, hFx.2.2.2.2.1, hFx.2.2.2.2.2.1, hFx.2.2.2.2.2.2.1⟩
      have hrS := rO_S _ _ _ _ _ _ _ hex
      have hcell : ∀ x, μ (507 + t.toNat) x = μ0 (507 + t.toNat) x ∧ μ (578 + t.toNat) x = μ0 (578 + t.toNat) x ∧ μ (649 + t.toNat) x = μ0 (649 + t.toNat) x := fun x => ⟨hfr _ _ (by unfold PT; omega), hfr _ _ (by unfold PT; omega), hfr _ _ (by unfold PT; omega)⟩
      have hRx : RA μ t.toNat (Std.DTreeMap.Internal.Impl.inner zx kx vx lx wx) (rO w ee.toNat) := RA_kept ⟨rx1, rx2, rx3, rx4, by rw [Nat.zero_add] at rx5; exact rx5⟩ (fun x _ _ => hcell x)
      refine lv_aload_n hx hb dX10_joinsTwo_15 rfl (lv_at hl 4 rfl) ?_
      refine lv_iload_n hx hb dX10_joinsTwo_16 rfl (lv_at hl 3 rfl) ?_
      refine lv_aload_n hx hb dX10_joinsTwo_17 rfl (lv_at hl 4 rfl) ?_
      refine fz_get (D := (dC, dI)) (ci := 10) (v := .ref (h0 + 722)) (C := RX10) (T := TX10) (N := 53) hx hb hts inG10 hown hK hP (k := 0) (by decide) (F := mF h0) mE_obj rfl 29 (by decide) (hts _ k1195) (fun _ h9 => h9) rfl dX10_joinsTwo_18 ?_
      refine lv_iconst (v := iZ 0) hx hb dX10_joinsTwo_21 rfl ?_
      refine fz_ald (k := 722) (n := 14) (k2 := (723 + 0)) hx hb hK hP 2 rfl (by decide) mE_rowS rfl ⟨by omega, by omega⟩ (by decide) (if_pos (by omega)) dX10_joinsTwo_22 ?_
      refine lv_iload hx hb dX10_joinsTwo_23 (lv_at hl 0 rfl) ?_
      refine fz_ld (k := (723 + 0)) (n := 260) hx hb hK hP 0 (by omega) (mE_rowSR (by omega)) rfl ⟨by omega, by omega⟩ (by decide) dX10_joinsTwo_25 ?_
      rw [show μ (723 + 0) (ee).toNat = (rO w ee.toNat : Int) from (by rw [hfr _ _ (by unfold PT; omega), hrow _ (by omega)]; omega)]
      refine lv_bipush (v := iZ 52) hx hb dX10_joinsTwo_26 rfl ?_
      refine va_callv (va_runV (As := [.int (iZ (t)), .int (iZ ((rO w ee.toNat : Int))), .int (iZ (52))]) (rest := []) ⟨hx, hb, hml, hown, hts⟩ (m_copies l dC dI cI cZ cII cIII h0 H.size μ (t) ((rO w ee.toNat : Int)) (52) (1 + (rN lx : Int)) (by first | assumption | omega | exact ⟨by omega, by omega⟩) (by decide) (by omega) (by intro _; omega) (by intro _; show 0 ≤ μ 719 52 ∧ μ 719 52 + _ ≤ 900; omega) (by intro _; exact hRx.2.2.1)) (cwV 3 hts (gV_G k1412 k1414 ks_yX10_copies k13 k1415) rfl rfl rfl (by decide +kernel) ⟨by show 2 + 1 ≤ _; omega, by show 8 + (6 + 11) + (38) ≤ _; omega⟩) ⟨fun a U g mk q => by obtain ⟨q0, q1, qP, qK⟩ := q; exact ⟨q0, q1, qP, va_K.moved (u := U) (U := U.calling g mk a) (Vm.Alike.refl U.vm) qK⟩, va_recv hK hP (ci := 10) (q0 := 0) rfl ((fw_get (by decide)).trans (by rw [mE_obj]; rfl)), fun U hU hW => ⟨rfl, by rw [hU], by rw [hU]; exact hP, va_K.moved hW.alike hK⟩⟩ rfl rfl hl.1 rfl (lv_room (Nat.le_of_ble_eq_true rfl)) dX10_joinsTwo_28 ⟨hRc, hRs⟩) hS (fun q _ h => fA_le hS.1 q h) (fA_le hS.1) (fun u9 t9 H1 locs ht9 hvm9 hw9 hB9 hz9 hk9 hS => ?_)
      obtain ⟨hP, -⟩ := hB9
      rw [ht9] at hP
      generalize H1 = H at hP hS ⊢
      obtain ⟨μx, eμx⟩ : ∃ x : va_M, x = u9 := ⟨_, rfl⟩
      rw [← eμx] at hP hw9
      have hμx := hw9; clear hw9
      obtain ⟨c1, c2, c3⟩ := hμx.2 (by decide)
      have e52 : (52 : Int).toNat = 52 := rfl
      rw [e52] at c1 c2 c3
      have eN : (μ 719 52).toNat = rO w ee.toNat := by omega
      rw [eN] at c1 c3
      have c3 : cpy μ μx t.toNat (rO w ee.toNat) 52 (rO w ee.toNat) (1 + rN lx) := by have := c3; rw [show (rO w ee.toNat : Int).toNat = rO w ee.toNat from rfl, show (1 + (rN lx : Int)).toNat = 1 + rN lx by omega] at this; exact this
      refine lv_iinc (v := iZ (ee + 1)) (lv' := [(4, .int (iZ (ee + 1))), (3, .int (iZ (k))), (2, .int (iZ (m9))), (1, .int (iZ (t))), (0, .ref h0)]) hx hb dX10_joinsTwo_31 hl (k := 0) rfl (iZ_add _ _) (by decide) rfl (fun ls hl => ?_)
      refine lv_goto (tgt := 9) hx hb dX10_joinsTwo_34 (by decide) ?_
      exact ih (ee + 1) μx H locs ls (by omega) (by exact fr_trans hfr (fr_mono c1 (fun _ _ h => PG_PT h))) (by rw [show (ee + 1).toNat = ee.toNat + 1 by omega, hrS]; omega) (by
                    rw [show (ee + 1).toNat = ee.toNat + 1 by omega, hrS]
                    intro u8 x ha8 hx8
                    rw [rpre_S _ _ _ _ _ _ _ _ hex]
                    refine hc u8 _ (fun y hy1 hy2 => ?_) (cpy_RA hRx c3 (fun y hy1 hy2 => ha8 y (by omega) (by omega)) hx8)
                    have h7 := ha8 y (by omega) (by omega)
                    rw [h7.1, h7.2.1, h7.2.2]
                    exact ⟨c1 _ _ (by unfold PG; omega), c1 _ _ (by unfold PG; omega), c1 _ _ (by unfold PG; omega)⟩) (by omega) hP hS (lv_sub hl [0, 1, 2, 3, 4] rfl)
set_option maxHeartbeats 40000000 in
set_option maxRecDepth 100000 in
theorem LX10_joinsTwo_69 {p : Program} {l : Launch} {e : Env} {R : Room} {s : State} {m : MethodId} {args : Array Value} {below : List Frame} {meth : Method} {c : Code} {cells slots : Nat} {Q : State → Prop} {dC : Nat → ClassId} {dI : Nat → Nat → Nat} {h0 : Nat} {cI cZ cII cIII : ClassId} (hx : p.tables.exec = Jvm.exec) (hb : c.code = cX10_joinsTwo) (hml : c.maxLocals = 5) (hown : s.vm.findClass RX10 = some m.cls) (hts : ∀ w ∈ wsG, w.before args s = true) (hK : va_K (dC, dI) vwCl (mT cI cZ cII cIII) s) (hRf : 24 ≤ R.frames) (hRl : 760 ≤ R.locals) (hRc : cells ≤ R.cells) (hRs : slots ≤ R.slots) (μ0 : va_M) (t : Int) (m9 : Int) (w : Rw) (k0 : Int) (c0 : Int) (fin : Rw) (ht : 0 ≤ t ∧ t < 70) (hR : RA μ0 t.toNat w 0) (hN : rN w ≤ 900) (hwf : rWF w) (hHH : rH w ≤ 20) (hrow : rowIs μ0 723 w 0) (h260 : rI w ≤ 260) (ht3 : t ≠ 50 ∧ t ≠ 51 ∧ t ≠ 52) (hm9 : m9 = rI w) (hcap : 0 ≤ c0 ∧ c0 + (rN w - rO w k0.toNat) ≤ 900) (hk0 : 0 ≤ k0 ∧ k0 ≤ rI w) (hexit97 : ∀ (ee : Int) (μ : va_M) (H : Heap) (locs : List Loc) (ls : Array Slot), (fr (PT 52) μ0 μ) → (μ 719 52 = c0 + (rN w - rO w k0.toNat)) → (RA μ 52 fin 0) → va_P (dC, dI) vwCl (fw (mE cI cZ cII cIII h0) h0 6325 μ) H → va_S (fA h0 6325 s.heap.size) s.heap H locs → lv_has ls 5 [(0, .ref h0), (1, .int (iZ (t)))] → W p l e R s m args below meth c H locs cells slots Q (F0 m 97 ls [])) :
    ∀ (n9 : Nat) (ee : Int) (μ : va_M) (H : Heap) (locs : List Loc) (ls : Array Slot), (k0 ≤ ee ∧ ee ≤ m9) → (fr (PT 52) μ0 μ) → (μ 719 52 = c0 + (rO w ee.toNat - rO w k0.toNat)) → (∀ u8 : va_M, agr μ u8 52 0 (μ 719 52).toNat → RA u8 52 (rdrop ee.toNat w) (μ 719 52).toNat → RA u8 52 fin 0) → (m9 - ee).toNat < n9 → va_P (dC, dI) vwCl (fw (mE cI cZ cII cIII h0) h0 6325 μ) H → va_S (fA h0 6325 s.heap.size) s.heap H locs → lv_has ls 5 [(4, .int (iZ (ee))), (0, .ref h0), (1, .int (iZ (t))), (2, .int (iZ (m9)))] → W p l e R s m args below meth c H locs cells slots Q (F0 m 69 ls []) := by
  intro n9
  induction n9 with
  | zero => intro ee μ H locs ls hk hfr hN5 hc hm9 hP hS hl; exact absurd hm9 (Nat.not_lt_zero _)
  | succ n9 ih =>
    intro ee μ H locs ls hk hfr hN5 hc hm9 hP hS hl
    refine lv_iload hx hb dX10_joinsTwo_69 (lv_at hl 0 rfl) ?_
    refine lv_iload_n hx hb dX10_joinsTwo_71 rfl (lv_at hl 3 rfl) ?_
    refine fz_icmp_ge (tgt := 97) (by constructor <;> omega) (by constructor <;> omega) hx hb dX10_joinsTwo_72 (by decide) (fun c72_ => ?_) (fun c72_ => ?_)
    · exact hexit97 (ee) μ H locs ls (by exact hfr) (by
                    have h9 := (rO_end w).1
                    rw [show ee.toNat = rI w by omega, h9] at hN5
                    exact hN5) (by
                    have h9 := (rO_end w).2
                    rw [show ee.toNat = rI w by omega, h9] at hc
                    exact hc μ (fun _ _ _ => ⟨rfl, rfl, rfl⟩) trivial) hP hS (lv_sub hl [1, 2] rfl)
    · have hIx := rdrop_I (ee.toNat) w
      have hNx := rdrop_N (ee.toNat) w
      have hHx := rdrop_H (ee.toNat) w
      have hFx := rdrop_WF (ee.toNat) w hwf
      have hRx := RA_drop (ee.toNat) w 0 hR
      obtain ⟨zx, kx, vx, lx, wx, hex⟩ := rI_pos (w := rdrop (ee.toNat) w) (by omega)
      rw [hex] at hIx hNx hHx hFx hRx
      rw [rN_in] at hNx; rw [rI_in] at hIx; rw [rH_in] at hHx
      obtain ⟨rx1, rx2, rx3, rx4, rx5⟩ := hRx
      rw [Nat.zero_add] at rx1 rx2 rx3 rx4
      have fxA : iWF kx vx lx := ⟨hFx.1, hFx.2.1, hFx.2.2.1, hFx.2.2.2.1, hFx.2.2.2.2.1, hFx.2.2.2.2.2.1, hFx.2.2.2.2.2.2.1⟩
      have hrS := rO_S _ _ _ _ _ _ _ hex
      have hmo := rO_mono k0.toNat ee.toNat w (by omega)
      have hcell : ∀ x, μ (507 + t.toNat) x = μ0 (507 + t.toNat) x ∧ μ (578 + t.toNat) x = μ0 (578 + t.toNat) x ∧ μ (649 + t.toNat) x = μ0 (649 + t.toNat) x := fun x => ⟨hfr _ _ (by unfold PT; omega), hfr _ _ (by unfold PT; omega), hfr _ _ (by unfold PT; omega)⟩
      have hRx : RA μ t.toNat (Std.DTreeMap.Internal.Impl.inner zx kx vx lx wx) (rO w ee.toNat) := RA_kept ⟨rx1, rx2, rx3, rx4, by rw [Nat.zero_add] at rx5; exact rx5⟩ (fun x _ _ => hcell x)
      refine lv_aload_n hx hb dX10_joinsTwo_75 rfl (lv_at hl 1 rfl) ?_
      refine lv_iload_n hx hb dX10_joinsTwo_76 rfl (lv_at hl 2 rfl) ?_
      refine lv_aload_n hx hb dX10_joinsTwo_77 rfl (lv_at hl 1 rfl) ?_
      refine fz_get (D := (dC, dI)) (ci := 10) (v := .ref (h0 + 722)) (C := RX10) (T := TX10) (N := 53) hx hb hts inG10 hown hK hP (k := 0) (by decide) (F := mF h0) mE_obj rfl 29 (by decide) (hts _ k1195) (fun _ h9 => h9) rfl dX10_joinsTwo_78 ?_
      refine lv_iconst (v := iZ 0) hx hb dX10_joinsTwo_81 rfl ?_
      refine fz_ald (k := 722) (n := 14) (k2 := (723 + 0)) hx hb hK hP 2 rfl (by decide) mE_rowS rfl ⟨by omega, by omega⟩ (by decide) (if_pos (by omega)) dX10_joinsTwo_82 ?_
      refine lv_iload hx hb dX10_joinsTwo_83 (lv_at hl 0 rfl) ?_
      refine fz_ld (k := (723 + 0)) (n := 260) hx hb hK hP 0 (by omega) (mE_rowSR (by omega)) rfl ⟨by omega, by omega⟩ (by decide) dX10_joinsTwo_85 ?_
      rw [show μ (723 + 0) (ee).toNat = (rO w ee.toNat : Int) from (by rw [hfr _ _ (by unfold PT; omega), hrow _ (by omega)]; omega)]
      refine lv_bipush (v := iZ 52) hx hb dX10_joinsTwo_86 rfl ?_
      refine va_callv (va_runV (As := [.int (iZ (t)), .int (iZ ((rO w ee.toNat : Int))), .int (iZ (52))]) (rest := []) ⟨hx, hb, hml, hown, hts⟩ (m_copies l dC dI cI cZ cII cIII h0 H.size μ (t) ((rO w ee.toNat : Int)) (52) (1 + (rN lx : Int)) (by first | assumption | omega | exact ⟨by omega, by omega⟩) (by decide) (by omega) (by intro _; omega) (by intro _; show 0 ≤ μ 719 52 ∧ μ 719 52 + _ ≤ 900; omega) (by intro _; exact hRx.2.2.1)) (cwV 3 hts (gV_G k1412 k1414 ks_yX10_copies k13 k1415) rfl rfl rfl (by decide +kernel) ⟨by show 2 + 1 ≤ _; omega, by show 8 + (6 + 11) + (38) ≤ _; omega⟩) ⟨fun a U g mk q => by obtain ⟨q0, q1, qP, qK⟩ := q; exact ⟨q0, q1, qP, va_K.moved (u := U) (U := U.calling g mk a) (Vm.Alike.refl U.vm) qK⟩, va_recv hK hP (ci := 10) (q0 := 0) rfl ((fw_get (by decide)).trans (by rw [mE_obj]; rfl)), fun U hU hW => ⟨rfl, by rw [hU], by rw [hU]; exact hP, va_K.moved hW.alike hK⟩⟩ rfl rfl hl.1 rfl (lv_room (Nat.le_of_ble_eq_true rfl)) dX10_joinsTwo_88 ⟨hRc, hRs⟩) hS (fun q _ h => fA_le hS.1 q h) (fA_le hS.1) (fun u9 t9 H1 locs ht9 hvm9 hw9 hB9 hz9 hk9 hS => ?_)
      obtain ⟨hP, -⟩ := hB9
      rw [ht9] at hP
      generalize H1 = H at hP hS ⊢
      obtain ⟨μx, eμx⟩ : ∃ x : va_M, x = u9 := ⟨_, rfl⟩
      rw [← eμx] at hP hw9
      have hμx := hw9; clear hw9
      obtain ⟨c1, c2, c3⟩ := hμx.2 (by decide)
      have e52 : (52 : Int).toNat = 52 := rfl
      rw [e52] at c1 c2 c3
      have c3 : cpy μ μx t.toNat (rO w ee.toNat) 52 (μ 719 52).toNat (1 + rN lx) := by have h9 := c3; rw [show (rO w ee.toNat : Int).toNat = rO w ee.toNat from rfl, show (1 + (rN lx : Int)).toNat = 1 + rN lx by omega] at h9; exact h9
      have hdS : rdrop (ee.toNat + 1) w = wx := rdrop_S hex
      refine lv_iinc (v := iZ (ee + 1)) (lv' := [(4, .int (iZ (ee + 1))), (0, .ref h0), (1, .int (iZ (t))), (2, .int (iZ (m9)))]) hx hb dX10_joinsTwo_91 hl (k := 0) rfl (iZ_add _ _) (by decide) rfl (fun ls hl => ?_)
      refine lv_goto (tgt := 69) hx hb dX10_joinsTwo_94 (by decide) ?_
      exact ih (ee + 1) μx H locs ls (by omega) (by exact fr_trans hfr (fr_mono c1 (fun _ _ h => PG_PT h))) (by rw [show (ee + 1).toNat = ee.toNat + 1 by omega, hrS]; omega) (by
                    rw [show (ee + 1).toNat = ee.toNat + 1 by omega, hdS, show (μx 719 52).toNat = (μ 719 52).toNat + 1 + rN lx by omega]
                    intro u8 ha8 hx8
                    refine hc u8 (fun y hy1 hy2 => ?_) ?_
                    · have h7 := ha8 y hy1 (by omega)
                      rw [h7.1, h7.2.1, h7.2.2]
                      exact ⟨c1 _ _ (by unfold PG; omega), c1 _ _ (by unfold PG; omega), c1 _ _ (by unfold PG; omega)⟩
                    · rw [hex]
                      exact cpy_RA hRx c3 (fun y hy1 hy2 => ha8 y (by omega) (by omega)) hx8) (by omega) hP hS (lv_sub hl [0, 1, 2, 3] rfl)
set_option maxHeartbeats 40000000 in
set_option maxRecDepth 100000 in
theorem m_joinsTwo (l : Launch) (dC : Nat → ClassId) (dI : Nat → Nat → Nat) (cI cZ cII cIII : ClassId) (h0 sz : Nat) (μ : va_M) (t : Int) (m9 : Int) (w : Rw) (k : Int) (za : Nat) (va : Int) (la : Rw) (ra : Rw) (zb : Nat) (vb : Int) (lb : Rw) (rb : Rw) (ht : 0 ≤ t ∧ t < 70) (hR : RA μ t.toNat w 0) (hN : rN w ≤ 900) (hwf : rWF w) (hHH : rH w ≤ 20) (hrow : rowIs μ 723 w 0) (h260 : rI w ≤ 260) (ht3 : t ≠ 50 ∧ t ≠ 51 ∧ t ≠ 52) (hm9 : m9 = rI w) (hk : 0 ≤ k) (hit : rdrop k.toNat w = Std.DTreeMap.Internal.Impl.inner za 4 va la ra ∧ rdrop (k.toNat + 1) w = Std.DTreeMap.Internal.Impl.inner zb 4 vb lb rb ∧ ralk la lb) : Met l yX10_joinsTwo (Cond.code yX10_joinsTwo cX10_joinsTwo 5 none :: wsG) ({ frames := 24, cells := 0, slots := 0, locals := 760 } : Room) (va_Pc [.ref h0, .int (iZ (t)), .int (iZ (m9)), .int (iZ (k))] (fun U => U.heap.size = sz ∧ va_P (dC, dI) vwCl (fw (mE cI cZ cII cIII h0) h0 6325 μ) U.heap ∧ va_K (dC, dI) vwCl (mT cI cZ cII cIII) U)) (va_Qv (fun (u : va_M) => TR u t.toNat (rtk w k.toNat (rfus la lb) (k.toNat + 2)) ∧ fr (PK t.toNat) μ u) (fun u t => va_P (dC, dI) vwCl (fw (mE cI cZ cII cIII h0) h0 6325 u) t.heap ∧ va_K (dC, dI) vwCl (mT cI cZ cII cIII) t) (fA h0 6325 sz)) 0 0 (fA h0 6325 sz) := by
  refine Met.ofW (cc := cX10_joinsTwo) (maxL := 5) (ret := none) (by decide) rfl ?_
  intro p e s m args below meth c s₁ B hml hv
  obtain ⟨rfl, hsz, hP, hK⟩ := hv
  have hx := B.exec
  have hb := B.bytes
  have hr := B.returns
  have hts : ∀ w ∈ wsG, w.before _ s = true := hG_of (atoms_spec (ws := (Cond.code yX10_joinsTwo cX10_joinsTwo 5 none :: wsG)) B.pre)
  have hown : s.vm.findClass RX10 = some m.cls := findClass_of_methodNamed B.named
  have hlocks := B.notSynchronized
  subst hsz
  have hS : va_S (fA h0 6325 s.heap.size) s.heap s.heap [] := va_S.rf
  have hl := lv_entry ([.ref h0, .int (iZ (t)), .int (iZ (m9)), .int (iZ (k))]) (n := 5) (Nat.le_of_ble_eq_true rfl)
  rw [lg_entry_eq]
  generalize (lg_sl ([.ref h0, .int (iZ (t)), .int (iZ (m9)), .int (iZ (k))]) ++ List.replicate (5 - (lg_sl ([.ref h0, .int (iZ (t)), .int (iZ (m9)), .int (iZ (k))])).length) Slot.unset).toArray = ls at hl ⊢
  have hl : lv_has ls 5 [(0, .ref h0), (1, .int (iZ (t))), (2, .int (iZ (m9))), (3, .int (iZ (k)))] := hl
  obtain ⟨e1_, e2_, hal⟩ := hit
  have hIa := rdrop_I k.toNat w
  have hNa := rdrop_N k.toNat w
  have hHa := rdrop_H k.toNat w
  have hWa := rdrop_WF k.toNat w hwf
  have hRa := RA_drop k.toNat w 0 hR
  rw [e1_] at hIa hNa hHa hWa hRa
  rw [rN_in] at hNa; rw [rI_in] at hIa; rw [rH_in] at hHa
  have hIb := rdrop_I (k.toNat + 1) w
  have hNb := rdrop_N (k.toNat + 1) w
  have hHb := rdrop_H (k.toNat + 1) w
  have hWb := rdrop_WF (k.toNat + 1) w hwf
  have hRb := RA_drop (k.toNat + 1) w 0 hR
  rw [e2_] at hIb hNb hHb hWb hRb
  rw [rN_in] at hNb; rw [rI_in] at hIb; rw [rH_in] at hHb
  have hSa := rO_S _ _ _ _ _ _ _ e1_
  have hSb := rO_S _ _ _ _ _ _ _ e2_
  rw [show k.toNat + 1 + 1 = k.toNat + 2 by omega] at hSb
  rw [Nat.zero_add] at hRa hRb
  obtain ⟨a1, a2, a3, a4, _⟩ := hRa
  obtain ⟨b1, b2, b3, b4, _⟩ := hRb
  have hmx := rO_mono (k.toNat + 2) (rI w) w (by omega)
  rw [(rO_end w).1] at hmx
  have hfN := rfus_N _ _ hWa.2.2.2.2.2.2.1 hWb.2.2.2.2.2.2.1 hal
  refine lv_aload_n hx hb dX10_joinsTwo_0 rfl (lv_at hl 0 rfl) ?_
  refine lv_bipush (v := iZ 52) hx hb dX10_joinsTwo_1 rfl ?_
  refine va_callv (va_runV (As := [.int (iZ (52))]) (rest := []) ⟨hx, hb, hml, hown, hts⟩ (m_empties l dC dI cI cZ cII cIII h0 s.heap.size μ (52) (by first | assumption | omega | exact ⟨by omega, by omega⟩)) (cwV 1 hts (gV_G k1373 k1375 ks_yX10_empties k13 k1376) rfl rfl rfl (by decide +kernel) ⟨Nat.le_of_ble_eq_true rfl, Nat.le_of_ble_eq_true rfl⟩) ⟨fun a U g mk q => by obtain ⟨q0, q1, qP, qK⟩ := q; exact ⟨q0, q1, qP, va_K.moved (u := U) (U := U.calling g mk a) (Vm.Alike.refl U.vm) qK⟩, va_recv hK hP (ci := 10) (q0 := 0) rfl ((fw_get (by decide)).trans (by rw [mE_obj]; rfl)), fun U hU hW => ⟨rfl, by rw [hU], by rw [hU]; exact hP, va_K.moved hW.alike hK⟩⟩ rfl rfl hl.1 rfl (lv_room (Nat.le_of_ble_eq_true rfl)) dX10_joinsTwo_3 ⟨Nat.le_of_ble_eq_true rfl, Nat.le_of_ble_eq_true rfl⟩) hS (fun q _ h => fA_le hS.1 q h) (fA_le hS.1) (fun u9 t9 H1 locs ht9 hvm9 hw9 hB9 hz9 hk9 hS => ?_)
  obtain ⟨hP, -⟩ := hB9
  rw [ht9] at hP
  generalize H1 = H at hP hS ⊢
  obtain ⟨μa, eμa⟩ : ∃ x : va_M, x = u9 := ⟨_, rfl⟩
  rw [← eμa] at hP hw9
  have hμa := hw9; clear hw9
  rw [show (52 : Int).toNat = 52 from rfl] at hμa
  have fa : fr (PT 52) μ μa := by rw [hμa]; exact fr_uz fr_rfl (by unfold PT; omega)
  have h52 : μa 719 52 = 0 := by rw [hμa, uz_s]
  have hcfa : ∀ x, μa (507 + t.toNat) x = μ (507 + t.toNat) x ∧ μa (578 + t.toNat) x = μ (578 + t.toNat) x ∧ μa (649 + t.toNat) x = μ (649 + t.toNat) x := fun x => ⟨fa _ x (by unfold PT; omega), fa _ x (by unfold PT; omega), fa _ x (by unfold PT; omega)⟩
  have h00 : rO w 0 = 0 := by cases w <;> rfl
  refine lv_iconst (v := iZ 0) hx hb dX10_joinsTwo_6 rfl ?_
  refine lv_istore (lv' := [(4, .int (iZ (0))), (0, .ref h0), (1, .int (iZ (t))), (2, .int (iZ (m9))), (3, .int (iZ (k)))]) hx hb dX10_joinsTwo_7 hl (by decide) rfl (fun ls hl => ?_)
  refine LX10_joinsTwo_9 hx hb hml hown hts hK (Nat.le_of_ble_eq_true rfl) (Nat.le_of_ble_eq_true rfl) (Nat.le_of_ble_eq_true rfl) (Nat.le_of_ble_eq_true rfl) (μa) (t) (m9) (w) (k) (by assumption) (by exact RA_kept hR (fun x _ _ => hcfa x)) (by assumption) (by assumption) (by assumption) (by exact fun m hm => by rw [fa _ _ (by unfold PT; omega)]; exact hrow m hm) (by assumption) (by assumption) (by assumption) (by omega) ?_ _ (0) μa H locs ls (by omega) (by exact fr_rfl) (by rw [h52]; show (0 : Int) = (rO w 0 : Int); rw [h00]; rfl) (by
            intro u8 x _ hx8
            have hx8 : RA u8 52 x (rO w 0) := hx8
            rw [h00] at hx8
            exact hx8) (Nat.lt_succ_self _) hP hS (lv_sub hl [0, 4, 3, 2, 1] rfl)
  · intro ee_1 μ1_ H locs ls q1_1 q2_1 q3_1 hP hS hl
    have hl : lv_has ls 5 [(3, .int (iZ (k))), (2, .int (iZ (m9))), (1, .int (iZ (t))), (0, .ref h0)] := hl
    have G1_ := q1_1
    have G2_ := q2_1
    have G3_ := q3_1
    have fp : fr (PT 52) μ μ1_ := fr_trans fa G1_
    have hcfp : ∀ x, μ1_ (507 + t.toNat) x = μ (507 + t.toNat) x ∧ μ1_ (578 + t.toNat) x = μ (578 + t.toNat) x ∧ μ1_ (649 + t.toNat) x = μ (649 + t.toNat) x := fun x => ⟨fp _ x (by unfold PT; omega), fp _ x (by unfold PT; omega), fp _ x (by unfold PT; omega)⟩
    have eN : (μ1_ 719 52).toNat = rO w k.toNat := by omega
    have hrowp : rowIs μ1_ 723 w 0 := fun m hm => by rw [fp _ _ (by unfold PT; omega)]; exact hrow m hm
    have hRp : RA μ1_ t.toNat w 0 := RA_kept hR (fun x _ _ => hcfp x)
    refine lv_aload_n hx hb dX10_joinsTwo_37 rfl (lv_at hl 3 rfl) ?_
    refine lv_iload_n hx hb dX10_joinsTwo_38 rfl (lv_at hl 2 rfl) ?_
    refine lv_aload_n hx hb dX10_joinsTwo_39 rfl (lv_at hl 3 rfl) ?_
    refine fz_get (D := (dC, dI)) (ci := 10) (v := .ref (h0 + 722)) (C := RX10) (T := TX10) (N := 53) hx hb hts inG10 hown hK hP (k := 0) (by decide) (F := mF h0) mE_obj rfl 29 (by decide) (hts _ k1195) (fun _ h9 => h9) rfl dX10_joinsTwo_40 ?_
    refine lv_iconst (v := iZ 0) hx hb dX10_joinsTwo_43 rfl ?_
    refine fz_ald (k := 722) (n := 14) (k2 := (723 + 0)) hx hb hK hP 2 rfl (by decide) mE_rowS rfl ⟨by omega, by omega⟩ (by decide) (if_pos (by omega)) dX10_joinsTwo_44 ?_
    refine lv_iload_n hx hb dX10_joinsTwo_45 rfl (lv_at hl 0 rfl) ?_
    refine fz_ld (k := (723 + 0)) (n := 260) hx hb hK hP 0 (by omega) (mE_rowSR (by omega)) rfl ⟨by omega, by omega⟩ (by decide) dX10_joinsTwo_46 ?_
    rw [show μ1_ (723 + 0) (k).toNat = (rO w k.toNat : Int) from (by rw [fp _ _ (by unfold PT; omega), hrow _ (by omega)]; omega)]
    refine lv_iload_n hx hb dX10_joinsTwo_47 rfl (lv_at hl 2 rfl) ?_
    refine lv_aload_n hx hb dX10_joinsTwo_48 rfl (lv_at hl 3 rfl) ?_
    refine fz_get (D := (dC, dI)) (ci := 10) (v := .ref (h0 + 722)) (C := RX10) (T := TX10) (N := 53) hx hb hts inG10 hown hK hP (k := 0) (by decide) (F := mF h0) mE_obj rfl 29 (by decide) (hts _ k1195) (fun _ h9 => h9) rfl dX10_joinsTwo_49 ?_
    refine lv_iconst (v := iZ 0) hx hb dX10_joinsTwo_52 rfl ?_
    refine fz_ald (k := 722) (n := 14) (k2 := (723 + 0)) hx hb hK hP 2 rfl (by decide) mE_rowS rfl ⟨by omega, by omega⟩ (by decide) (if_pos (by omega)) dX10_joinsTwo_53 ?_
    refine lv_iload_n hx hb dX10_joinsTwo_54 rfl (lv_at hl 0 rfl) ?_
    refine lv_iconst (v := iZ 1) hx hb dX10_joinsTwo_55 rfl ?_
    refine lv_iadd hx hb dX10_joinsTwo_56 ?_
    refine lv_topi (fun x9 ex9 => ?_)
    obtain rfl : x9 = iZ (k + 1) := ex9.trans (iZ_add _ _)
    refine fz_ld (k := (723 + 0)) (n := 260) hx hb hK hP 0 (by omega) (mE_rowSR (by omega)) rfl ⟨by omega, by omega⟩ (by decide) dX10_joinsTwo_57 ?_
    rw [show μ1_ (723 + 0) (k + 1).toNat = (rO w (k.toNat + 1) : Int) from (by rw [show (k + 1).toNat = k.toNat + 1 by omega, fp _ _ (by unfold PT; omega), hrow _ (by omega)]; omega)]
    refine lv_bipush (v := iZ 52) hx hb dX10_joinsTwo_58 rfl ?_
    refine va_calli (va_runV (As := [.int (iZ (t)), .int (iZ ((rO w k.toNat : Int))), .int (iZ (t)), .int (iZ ((rO w (k.toNat + 1) : Int))), .int (iZ (52))]) (rest := []) ⟨hx, hb, hml, hown, hts⟩ (m_fuses l dC dI cI cZ cII cIII h0 (20) H.size μ1_ (t) ((rO w k.toNat : Int)) (t) ((rO w (k.toNat + 1) : Int)) (52) (4) (va) (la) (4) (vb) (lb) (by first | assumption | omega | exact ⟨by omega, by omega⟩) (by first | assumption | omega | exact ⟨by omega, by omega⟩) (by omega) (by intro _; show 0 ≤ μ1_ 719 52 ∧ μ1_ 719 52 + 1 + _ ≤ 900; omega) (by omega) (by omega) (by exact ⟨by rw [(hcfp _).1]; exact a1, by rw [(hcfp _).2.1]; exact a2, by rw [(hcfp _).2.2]; exact a3, RA_kept a4 (fun x _ _ => hcfp x)⟩) (by exact ⟨by rw [(hcfp _).1]; exact b1, by rw [(hcfp _).2.1]; exact b2, by rw [(hcfp _).2.2]; exact b3, RA_kept b4 (fun x _ _ => hcfp x)⟩) (by exact ⟨hWa.1, hWa.2.1, hWa.2.2.1, hWa.2.2.2.1, hWa.2.2.2.2.1, hWa.2.2.2.2.2.1, hWa.2.2.2.2.2.2.1⟩) (by exact ⟨hWb.1, hWb.2.1, hWb.2.2.1, hWb.2.2.2.1, hWb.2.2.2.2.1, hWb.2.2.2.2.2.1, hWb.2.2.2.2.2.2.1⟩) (by exact Or.inr ⟨by unfold isTx; omega, rfl, fun h => absurd h (by omega), hal⟩) (by omega)) (cwV 5 hts (gV_G k1416 k1418 ks_yX10_fuses k13 k1419) rfl rfl rfl (by decide +kernel) ⟨Nat.le_of_ble_eq_true rfl, Nat.le_of_ble_eq_true rfl⟩) ⟨fun a U g mk q => by obtain ⟨q0, q1, qP, qK⟩ := q; exact ⟨q0, q1, qP, va_K.moved (u := U) (U := U.calling g mk a) (Vm.Alike.refl U.vm) qK⟩, va_recv hK hP (ci := 10) (q0 := 0) rfl ((fw_get (by decide)).trans (by rw [mE_obj]; rfl)), fun U hU hW => ⟨rfl, by rw [hU], by rw [hU]; exact hP, va_K.moved hW.alike hK⟩⟩ rfl rfl hl.1 rfl (lv_room (Nat.le_of_ble_eq_true rfl)) dX10_joinsTwo_60 ⟨Nat.le_of_ble_eq_true rfl, Nat.le_of_ble_eq_true rfl⟩) hS (fun q _ h => fA_le hS.1 q h) (fA_le hS.1) (fun r9 u9 t9 H1 locs ht9 hvm9 hw9 hB9 hz9 hk9 hS => ?_)
    obtain ⟨μb, r2⟩ := u9
    obtain ⟨hP, -⟩ := hB9
    rw [ht9] at hP
    generalize H1 = H at hP hS ⊢
    obtain ⟨e9, hw9⟩ := hw9
    have e9 : r9 = iZ r2 := e9
    subst e9
    simp only at hP hw9
    have hμb := hw9; clear hw9
    obtain ⟨c1, c2, c3⟩ := hμb.2.1 (by decide)
    rw [show (52 : Int).toNat = 52 from rfl] at c1 c2 c3
    rw [eN] at c1 c3
    rw [show fK 4 va 4 vb = 4 by unfold fK; rw [if_neg (by omega)], show fV 4 va 4 vb = -1 by unfold fV; rw [if_neg (by omega)]] at c3
    have hZ : (k + 2).toNat = k.toNat + 2 := by omega
    have fb : fr (PT 52) μ μb := fr_trans fp (fr_mono c1 (fun _ _ h => PG_PT h))
    have hcfb : ∀ x, μb (507 + t.toNat) x = μ (507 + t.toNat) x ∧ μb (578 + t.toNat) x = μ (578 + t.toNat) x ∧ μb (649 + t.toNat) x = μ (649 + t.toNat) x := fun x => ⟨fb _ x (by unfold PT; omega), fb _ x (by unfold PT; omega), fb _ x (by unfold PT; omega)⟩
    refine lv_pop hx hb dX10_joinsTwo_63 rfl ?_
    refine lv_iload_n hx hb dX10_joinsTwo_64 rfl (lv_at hl 0 rfl) ?_
    refine lv_iconst (v := iZ 2) hx hb dX10_joinsTwo_65 rfl ?_
    refine lv_iadd hx hb dX10_joinsTwo_66 ?_
    refine lv_topi (fun x9 ex9 => ?_)
    obtain rfl : x9 = iZ (k + 2) := ex9.trans (iZ_add _ _)
    refine lv_istore (lv' := [(4, .int (iZ (k + 2))), (3, .int (iZ (k))), (2, .int (iZ (m9))), (1, .int (iZ (t))), (0, .ref h0)]) hx hb dX10_joinsTwo_67 hl (by decide) rfl (fun ls hl => ?_)
    refine LX10_joinsTwo_69 hx hb hml hown hts hK (Nat.le_of_ble_eq_true rfl) (Nat.le_of_ble_eq_true rfl) (Nat.le_of_ble_eq_true rfl) (Nat.le_of_ble_eq_true rfl) (μb) (t) (m9) (w) (k + 2) (μb 719 52) ((rtk w k.toNat (rfus la lb) (k.toNat + 2))) (by assumption) (by exact RA_kept hR (fun x _ _ => hcfb x)) (by assumption) (by assumption) (by assumption) (by exact fun m hm => by rw [fb _ _ (by unfold PT; omega)]; exact hrow m hm) (by assumption) (by assumption) (by assumption) (by
                rw [hZ]
                show 0 ≤ μb 719 52 ∧ μb 719 52 + (rN w - rO w (k.toNat + 2)) ≤ 900
                omega) (by omega) ?_ _ (k + 2) μb H locs ls (by omega) (by exact fr_rfl) (by omega) (by
                rw [hZ]
                intro u8 ha8 hx8
                unfold rtk
                refine G3_ u8 _ (fun y hy1 hy2 => ?_) ?_
                · have h7 := ha8 y hy1 (by omega)
                  rw [h7.1, h7.2.1, h7.2.2]
                  exact ⟨c1 _ _ (by unfold PG; omega), c1 _ _ (by unfold PG; omega), c1 _ _ (by unfold PG; omega)⟩
                · have h7 := ha8 (rO w k.toNat) (by omega) (by omega)
                  refine ⟨h7.1.trans c3.1, h7.2.1.trans c3.2.1, h7.2.2.trans c3.2.2.1, RA_kept c3.2.2.2 (fun y hy1 hy2 => ha8 y (by omega) (by omega)), ?_⟩
                  rw [show rO w k.toNat + 1 + rN (rfus la lb) = (μb 719 52).toNat by omega]
                  exact hx8) (Nat.lt_succ_self _) hP hS (lv_sub hl [0, 4, 3, 2] rfl)
    · intro ee_3 μ3_ H locs ls q1_3 q2_3 q3_3 hP hS hl
      have hl : lv_has ls 5 [(0, .ref h0), (1, .int (iZ (t)))] := hl
      have v1_ := q1_3
      have v2_ := q2_3
      have v3_ := q3_3
      have fd : fr (PT 52) μ μ3_ := fr_trans fb v1_
      have hNd := rdrop_N (k.toNat + 2) w
      have hNF : rN (rtk w k.toNat (rfus la lb) (k.toNat + 2)) = rO w k.toNat + (1 + rN (rfus la lb) + rN (rdrop (k.toNat + 2) w)) := by unfold rtk; rw [rpre_N _ _ _ (by omega), rN_in]
      rw [hZ] at v2_
      refine lv_aload_n hx hb dX10_joinsTwo_97 rfl (lv_at hl 0 rfl) ?_
      refine lv_bipush (v := iZ 52) hx hb dX10_joinsTwo_98 rfl ?_
      refine lv_iload_n hx hb dX10_joinsTwo_100 rfl (lv_at hl 1 rfl) ?_
      refine va_callv (va_runV (As := [.int (iZ (52)), .int (iZ (t))]) (rest := []) ⟨hx, hb, hml, hown, hts⟩ (m_copiesAll l dC dI cI cZ cII cIII h0 H.size μ3_ (52) (t) ((rtk w k.toNat (rfus la lb) (k.toNat + 2))) (by decide) (by first | assumption | omega | exact ⟨by omega, by omega⟩) (by omega) (by exact ⟨by show μ3_ 719 52 = _; omega, v3_⟩) (by omega)) (cwV 2 hts (gV_G k1424 k1426 ks_yX10_copiesAll k13 k1427) rfl rfl rfl (by decide +kernel) ⟨Nat.le_of_ble_eq_true rfl, Nat.le_of_ble_eq_true rfl⟩) ⟨fun a U g mk q => by obtain ⟨q0, q1, qP, qK⟩ := q; exact ⟨q0, q1, qP, va_K.moved (u := U) (U := U.calling g mk a) (Vm.Alike.refl U.vm) qK⟩, va_recv hK hP (ci := 10) (q0 := 0) rfl ((fw_get (by decide)).trans (by rw [mE_obj]; rfl)), fun U hU hW => ⟨rfl, by rw [hU], by rw [hU]; exact hP, va_K.moved hW.alike hK⟩⟩ rfl rfl hl.1 rfl (lv_room (Nat.le_of_ble_eq_true rfl)) dX10_joinsTwo_101 ⟨Nat.le_of_ble_eq_true rfl, Nat.le_of_ble_eq_true rfl⟩) hS (fun q _ h => fA_le hS.1 q h) (fA_le hS.1) (fun u9 t9 H1 locs ht9 hvm9 hw9 hB9 hz9 hk9 hS => ?_)
      obtain ⟨hP, -⟩ := hB9
      rw [ht9] at hP
      generalize H1 = H at hP hS ⊢
      obtain ⟨μ4, eμ4⟩ : ∃ x : va_M, x = u9 := ⟨_, rfl⟩
      rw [← eμ4] at hP hw9
      have hμ4 := hw9; clear hw9
      exact W.vret hx hb hr (fun t9 ht9 hW9 => ⟨⟨μ4, rfl, (by
                    try dsimp only
                    exact ⟨hμ4.1, fr_trans (fr_mono fd (fun _ _ h => Or.inl h)) (fr_mono hμ4.2 (fun _ _ h => Or.inr h))⟩), by rw [ht9]; exact hP, va_K.moved hW9.alike hK⟩, hS.F ht9⟩) hS.2.2 dX10_joinsTwo_104
set_option maxHeartbeats 40000000 in
set_option maxRecDepth 100000 in
theorem LX10_takesIn_41a1 {p : Program} {l : Launch} {e : Env} {R : Room} {s : State} {m : MethodId} {args : Array Value} {below : List Frame} {meth : Method} {c : Code} {cells slots : Nat} {Q : State → Prop} {dC : Nat → ClassId} {dI : Nat → Nat → Nat} {h0 : Nat} {cI cZ cII cIII : ClassId} (hx : p.tables.exec = Jvm.exec) (hb : c.code = cX10_takesIn) (hml : c.maxLocals = 8) (hown : s.vm.findClass RX10 = some m.cls) (hts : ∀ w ∈ wsG, w.before args s = true) (hK : va_K (dC, dI) vwCl (mT cI cZ cII cIII) s) (hRf : 25 ≤ R.frames) (hRl : 770 ≤ R.locals) (hRc : cells ≤ R.cells) (hRs : slots ≤ R.slots) (μ0 : va_M) (t : Int) (m9 : Int) (w : Rw) (k : Int) (so : Int) (f9 : Int) (ht : 0 ≤ t ∧ t < 70) (hR : RA μ0 t.toNat w 0) (hN : rN w ≤ 900) (hwf : rWF w) (hHH : rH w ≤ 20) (hrow : rowIs μ0 723 w 0) (h260 : rI w ≤ 260) (ht3 : t ≠ 50 ∧ t ≠ 51 ∧ t ≠ 52) (hm9 : m9 = rI w) (ha : 0 ≤ f9 ∧ f9 ≤ rI w) (hexit79 : ∀ (ee : Int) (μ : va_M) (H : Heap) (locs : List Loc) (ls : Array Slot), (fr (PT 52) μ0 μ) → (μ 719 52 = rO w f9.toNat) → (∀ (u8 : va_M) (x : Rw), agr μ u8 52 0 (rO w f9.toNat) → RA u8 52 x (rO w f9.toNat) → RA u8 52 (rpre f9.toNat w x) 0) → va_P (dC, dI) vwCl (fw (mE cI cZ cII cIII h0) h0 6325 μ) H → va_S (fA h0 6325 s.heap.size) s.heap H locs → lv_has ls 8 [(6, .int (iZ (f9))), (5, .int (iZ (so))), (4, .int (iZ (1))), (3, .int (iZ (k))), (2, .int (iZ (m9))), (1, .int (iZ (t))), (0, .ref h0)] → W p l e R s m args below meth c H locs cells slots Q (F0 m 79 ls [])) :
    ∀ (n9 : Nat) (ee : Int) (μ : va_M) (H : Heap) (locs : List Loc) (ls : Array Slot), (0 ≤ ee ∧ ee ≤ f9) → (fr (PT 52) μ0 μ) → (μ 719 52 = rO w ee.toNat) → (∀ (u8 : va_M) (x : Rw), agr μ u8 52 0 (rO w ee.toNat) → RA u8 52 x (rO w ee.toNat) → RA u8 52 (rpre ee.toNat w x) 0) → (f9 - ee).toNat < n9 → va_P (dC, dI) vwCl (fw (mE cI cZ cII cIII h0) h0 6325 μ) H → va_S (fA h0 6325 s.heap.size) s.heap H locs → lv_has ls 8 [(7, .int (iZ (ee))), (6, .int (iZ (f9))), (5, .int (iZ (so))), (4, .int (iZ (1))), (3, .int (iZ (k))), (2, .int (iZ (m9))), (1, .int (iZ (t))), (0, .ref h0)] → W p l e R s m args below meth c H locs cells slots Q (F0 m 41 ls []) := by
  intro n9
  induction n9 with
  | zero => intro ee μ H locs ls hk hfr hN5 hc hm9 hP hS hl; exact absurd hm9 (Nat.not_lt_zero _)
  | succ n9 ih =>
    intro ee μ H locs ls hk hfr hN5 hc hm9 hP hS hl
    refine lv_iload hx hb dX10_takesIn_41 (lv_at hl 0 rfl) ?_
    refine lv_iload hx hb dX10_takesIn_43 (lv_at hl 3 rfl) ?_
    refine fz_if_eq (tgt := 53) (by decide) hx hb dX10_takesIn_45 (by decide) (fun h9 => absurd h9 (by decide)) (fun c45_ => ?_)
    refine lv_iload hx hb dX10_takesIn_48 (lv_at hl 1 rfl) ?_
    refine lv_goto (tgt := 54) hx hb dX10_takesIn_50 (by decide) ?_
    refine fz_icmp_ge (tgt := 79) (by constructor <;> omega) (by constructor <;> omega) hx hb dX10_takesIn_54 (by decide) (fun c54_ => ?_) (fun c54_ => ?_)
    · exact hexit79 (ee) μ H locs ls (by exact hfr) (by
                    have hee : ee = f9 := by omega
                    rw [hee] at hN5
                    exact hN5) (by
                    have hee : ee = f9 := by omega
                    rw [hee] at hc
                    exact hc) hP hS (lv_sub hl [1, 2, 3, 4, 5, 6, 7] rfl)
    · have hIx := rdrop_I (ee.toNat) w
      have hNx := rdrop_N (ee.toNat) w
      have hHx := rdrop_H (ee.toNat) w
      have hFx := rdrop_WF (ee.toNat) w hwf
      have hRx := RA_drop (ee.toNat) w 0 hR
      obtain ⟨zx, kx, vx, lx, wx, hex⟩ := rI_pos (w := rdrop (ee.toNat) w) (by omega)
      rw [hex] at hIx hNx hHx hFx hRx
      rw [rN_in] at hNx; rw [rI_in] at hIx; rw [rH_in] at hHx
      obtain ⟨rx1, rx2, rx3, rx4, rx5⟩ := hRx
      rw [Nat.zero_add] at rx1 rx2 rx3 rx4
      have fxA : iWF kx vx lx := ⟨hFx.1, hFx.2.1, hFx.2.2.1, hFx.2.2.2.1, hFx.2.2.2.2.1, hFx.2.2.2.2.2.1, hFx.2.2.2.2.2.2.1⟩
      have hrS := rO_S _ _ _ _ _ _ _ hex
      have hcell : ∀ x, μ (507 + t.toNat) x = μ0 (507 + t.toNat) x ∧ μ (578 + t.toNat) x = μ0 (578 + t.toNat) x ∧ μ (649 + t.toNat) x = μ0 (649 + t.toNat) x := fun x => ⟨hfr _ _ (by unfold PT; omega), hfr _ _ (by unfold PT; omega), hfr _ _ (by unfold PT; omega)⟩
      have hRx : RA μ t.toNat (Std.DTreeMap.Internal.Impl.inner zx kx vx lx wx) (rO w ee.toNat) := RA_kept ⟨rx1, rx2, rx3, rx4, by rw [Nat.zero_add] at rx5; exact rx5⟩ (fun x _ _ => hcell x)
      refine lv_aload_n hx hb dX10_takesIn_57 rfl (lv_at hl 7 rfl) ?_
      refine lv_iload_n hx hb dX10_takesIn_58 rfl (lv_at hl 6 rfl) ?_
      refine lv_aload_n hx hb dX10_takesIn_59 rfl (lv_at hl 7 rfl) ?_
      refine fz_get (D := (dC, dI)) (ci := 10) (v := .ref (h0 + 722)) (C := RX10) (T := TX10) (N := 53) hx hb hts inG10 hown hK hP (k := 0) (by decide) (F := mF h0) mE_obj rfl 29 (by decide) (hts _ k1195) (fun _ h9 => h9) rfl dX10_takesIn_60 ?_
      refine lv_iconst (v := iZ 0) hx hb dX10_takesIn_63 rfl ?_
      refine fz_ald (k := 722) (n := 14) (k2 := (723 + 0)) hx hb hK hP 2 rfl (by decide) mE_rowS rfl ⟨by omega, by omega⟩ (by decide) (if_pos (by omega)) dX10_takesIn_64 ?_
      refine lv_iload hx hb dX10_takesIn_65 (lv_at hl 0 rfl) ?_
      refine fz_ld (k := (723 + 0)) (n := 260) hx hb hK hP 0 (by omega) (mE_rowSR (by omega)) rfl ⟨by omega, by omega⟩ (by decide) dX10_takesIn_67 ?_
      rw [show μ (723 + 0) (ee).toNat = (rO w ee.toNat : Int) from (by rw [hfr _ _ (by unfold PT; omega), hrow _ (by omega)]; omega)]
      refine lv_bipush (v := iZ 52) hx hb dX10_takesIn_68 rfl ?_
      refine va_callv (va_runV (As := [.int (iZ (t)), .int (iZ ((rO w ee.toNat : Int))), .int (iZ (52))]) (rest := []) ⟨hx, hb, hml, hown, hts⟩ (m_copies l dC dI cI cZ cII cIII h0 H.size μ (t) ((rO w ee.toNat : Int)) (52) (1 + (rN lx : Int)) (by first | assumption | omega | exact ⟨by omega, by omega⟩) (by decide) (by omega) (by intro _; omega) (by intro _; show 0 ≤ μ 719 52 ∧ μ 719 52 + _ ≤ 900; omega) (by intro _; exact hRx.2.2.1)) (cwV 3 hts (gV_G k1412 k1414 ks_yX10_copies k13 k1415) rfl rfl rfl (by decide +kernel) ⟨by show 2 + 1 ≤ _; omega, by show 8 + (6 + 11) + (38) ≤ _; omega⟩) ⟨fun a U g mk q => by obtain ⟨q0, q1, qP, qK⟩ := q; exact ⟨q0, q1, qP, va_K.moved (u := U) (U := U.calling g mk a) (Vm.Alike.refl U.vm) qK⟩, va_recv hK hP (ci := 10) (q0 := 0) rfl ((fw_get (by decide)).trans (by rw [mE_obj]; rfl)), fun U hU hW => ⟨rfl, by rw [hU], by rw [hU]; exact hP, va_K.moved hW.alike hK⟩⟩ rfl rfl hl.1 rfl (lv_room (Nat.le_of_ble_eq_true rfl)) dX10_takesIn_70 ⟨hRc, hRs⟩) hS (fun q _ h => fA_le hS.1 q h) (fA_le hS.1) (fun u9 t9 H1 locs ht9 hvm9 hw9 hB9 hz9 hk9 hS => ?_)
      obtain ⟨hP, -⟩ := hB9
      rw [ht9] at hP
      generalize H1 = H at hP hS ⊢
      obtain ⟨μx, eμx⟩ : ∃ x : va_M, x = u9 := ⟨_, rfl⟩
      rw [← eμx] at hP hw9
      have hμx := hw9; clear hw9
      obtain ⟨c1, c2, c3⟩ := hμx.2 (by decide)
      have e52 : (52 : Int).toNat = 52 := rfl
      rw [e52] at c1 c2 c3
      have eN : (μ 719 52).toNat = rO w ee.toNat := by omega
      rw [eN] at c1 c3
      have c3 : cpy μ μx t.toNat (rO w ee.toNat) 52 (rO w ee.toNat) (1 + rN lx) := by have := c3; rw [show (rO w ee.toNat : Int).toNat = rO w ee.toNat from rfl, show (1 + (rN lx : Int)).toNat = 1 + rN lx by omega] at this; exact this
      refine lv_iinc (v := iZ (ee + 1)) (lv' := [(7, .int (iZ (ee + 1))), (6, .int (iZ (f9))), (5, .int (iZ (so))), (4, .int (iZ (1))), (3, .int (iZ (k))), (2, .int (iZ (m9))), (1, .int (iZ (t))), (0, .ref h0)]) hx hb dX10_takesIn_73 hl (k := 0) rfl (iZ_add _ _) (by decide) rfl (fun ls hl => ?_)
      refine lv_goto (tgt := 41) hx hb dX10_takesIn_76 (by decide) ?_
      exact ih (ee + 1) μx H locs ls (by omega) (by exact fr_trans hfr (fr_mono c1 (fun _ _ h => PG_PT h))) (by rw [show (ee + 1).toNat = ee.toNat + 1 by omega, hrS]; omega) (by
                    rw [show (ee + 1).toNat = ee.toNat + 1 by omega, hrS]
                    intro u8 x ha8 hx8
                    rw [rpre_S _ _ _ _ _ _ _ _ hex]
                    refine hc u8 _ (fun y hy1 hy2 => ?_) (cpy_RA hRx c3 (fun y hy1 hy2 => ha8 y (by omega) (by omega)) hx8)
                    have h7 := ha8 y (by omega) (by omega)
                    rw [h7.1, h7.2.1, h7.2.2]
                    exact ⟨c1 _ _ (by unfold PG; omega), c1 _ _ (by unfold PG; omega), c1 _ _ (by unfold PG; omega)⟩) (by omega) hP hS (lv_sub hl [0, 1, 2, 3, 4, 5, 6, 7] rfl)
set_option maxHeartbeats 40000000 in
set_option maxRecDepth 100000 in
theorem LX10_takesIn_123b1 {p : Program} {l : Launch} {e : Env} {R : Room} {s : State} {m : MethodId} {args : Array Value} {below : List Frame} {meth : Method} {c : Code} {cells slots : Nat} {Q : State → Prop} {dC : Nat → ClassId} {dI : Nat → Nat → Nat} {h0 : Nat} {cI cZ cII cIII : ClassId} (hx : p.tables.exec = Jvm.exec) (hb : c.code = cX10_takesIn) (hml : c.maxLocals = 8) (hown : s.vm.findClass RX10 = some m.cls) (hts : ∀ w ∈ wsG, w.before args s = true) (hK : va_K (dC, dI) vwCl (mT cI cZ cII cIII) s) (hRf : 25 ≤ R.frames) (hRl : 770 ≤ R.locals) (hRc : cells ≤ R.cells) (hRs : slots ≤ R.slots) (μ0 : va_M) (t : Int) (m9 : Int) (w : Rw) (k0 : Int) (c0 : Int) (fin : Rw) (ht : 0 ≤ t ∧ t < 70) (hR : RA μ0 t.toNat w 0) (hN : rN w ≤ 900) (hwf : rWF w) (hHH : rH w ≤ 20) (hrow : rowIs μ0 723 w 0) (h260 : rI w ≤ 260) (ht3 : t ≠ 50 ∧ t ≠ 51 ∧ t ≠ 52) (hm9 : m9 = rI w) (hcap : 0 ≤ c0 ∧ c0 + (rN w - rO w k0.toNat) ≤ 900) (hk0 : 0 ≤ k0 ∧ k0 ≤ rI w) (hexit151 : ∀ (ee : Int) (μ : va_M) (H : Heap) (locs : List Loc) (ls : Array Slot), (fr (PT 52) μ0 μ) → (μ 719 52 = c0 + (rN w - rO w k0.toNat)) → (RA μ 52 fin 0) → va_P (dC, dI) vwCl (fw (mE cI cZ cII cIII h0) h0 6325 μ) H → va_S (fA h0 6325 s.heap.size) s.heap H locs → lv_has ls 8 [(0, .ref h0), (1, .int (iZ (t)))] → W p l e R s m args below meth c H locs cells slots Q (F0 m 151 ls [])) :
    ∀ (n9 : Nat) (ee : Int) (μ : va_M) (H : Heap) (locs : List Loc) (ls : Array Slot), (k0 ≤ ee ∧ ee ≤ m9) → (fr (PT 52) μ0 μ) → (μ 719 52 = c0 + (rO w ee.toNat - rO w k0.toNat)) → (∀ u8 : va_M, agr μ u8 52 0 (μ 719 52).toNat → RA u8 52 (rdrop ee.toNat w) (μ 719 52).toNat → RA u8 52 fin 0) → (m9 - ee).toNat < n9 → va_P (dC, dI) vwCl (fw (mE cI cZ cII cIII h0) h0 6325 μ) H → va_S (fA h0 6325 s.heap.size) s.heap H locs → lv_has ls 8 [(7, .int (iZ (ee))), (0, .ref h0), (1, .int (iZ (t))), (2, .int (iZ (m9)))] → W p l e R s m args below meth c H locs cells slots Q (F0 m 123 ls []) := by
  intro n9
  induction n9 with
  | zero => intro ee μ H locs ls hk hfr hN5 hc hm9 hP hS hl; exact absurd hm9 (Nat.not_lt_zero _)
  | succ n9 ih =>
    intro ee μ H locs ls hk hfr hN5 hc hm9 hP hS hl
    refine lv_iload hx hb dX10_takesIn_123 (lv_at hl 0 rfl) ?_
    refine lv_iload_n hx hb dX10_takesIn_125 rfl (lv_at hl 3 rfl) ?_
    refine fz_icmp_ge (tgt := 151) (by constructor <;> omega) (by constructor <;> omega) hx hb dX10_takesIn_126 (by decide) (fun c126_ => ?_) (fun c126_ => ?_)
    · exact hexit151 (ee) μ H locs ls (by exact hfr) (by
                    have h9 := (rO_end w).1
                    rw [show ee.toNat = rI w by omega, h9] at hN5
                    exact hN5) (by
                    have h9 := (rO_end w).2
                    rw [show ee.toNat = rI w by omega, h9] at hc
                    exact hc μ (fun _ _ _ => ⟨rfl, rfl, rfl⟩) trivial) hP hS (lv_sub hl [1, 2] rfl)
    · have hIx := rdrop_I (ee.toNat) w
      have hNx := rdrop_N (ee.toNat) w
      have hHx := rdrop_H (ee.toNat) w
      have hFx := rdrop_WF (ee.toNat) w hwf
      have hRx := RA_drop (ee.toNat) w 0 hR
      obtain ⟨zx, kx, vx, lx, wx, hex⟩ := rI_pos (w := rdrop (ee.toNat) w) (by omega)
      rw [hex] at hIx hNx hHx hFx hRx
      rw [rN_in] at hNx; rw [rI_in] at hIx; rw [rH_in] at hHx
      obtain ⟨rx1, rx2, rx3, rx4, rx5⟩ := hRx
      rw [Nat.zero_add] at rx1 rx2 rx3 rx4
      have fxA : iWF kx vx lx := ⟨hFx.1, hFx.2.1, hFx.2.2.1, hFx.2.2.2.1, hFx.2.2.2.2.1, hFx.2.2.2.2.2.1, hFx.2.2.2.2.2.2.1⟩
      have hrS := rO_S _ _ _ _ _ _ _ hex
      have hmo := rO_mono k0.toNat ee.toNat w (by omega)
      have hcell : ∀ x, μ (507 + t.toNat) x = μ0 (507 + t.toNat) x ∧ μ (578 + t.toNat) x = μ0 (578 + t.toNat) x ∧ μ (649 + t.toNat) x = μ0 (649 + t.toNat) x := fun x => ⟨hfr _ _ (by unfold PT; omega), hfr _ _ (by unfold PT; omega), hfr _ _ (by unfold PT; omega)⟩
      have hRx : RA μ t.toNat (Std.DTreeMap.Internal.Impl.inner zx kx vx lx wx) (rO w ee.toNat) := RA_kept ⟨rx1, rx2, rx3, rx4, by rw [Nat.zero_add] at rx5; exact rx5⟩ (fun x _ _ => hcell x)
      refine lv_aload_n hx hb dX10_takesIn_129 rfl (lv_at hl 1 rfl) ?_
      refine lv_iload_n hx hb dX10_takesIn_130 rfl (lv_at hl 2 rfl) ?_
      refine lv_aload_n hx hb dX10_takesIn_131 rfl (lv_at hl 1 rfl) ?_
      refine fz_get (D := (dC, dI)) (ci := 10) (v := .ref (h0 + 722)) (C := RX10) (T := TX10) (N := 53) hx hb hts inG10 hown hK hP (k := 0) (by decide) (F := mF h0) mE_obj rfl 29 (by decide) (hts _ k1195) (fun _ h9 => h9) rfl dX10_takesIn_132 ?_
      refine lv_iconst (v := iZ 0) hx hb dX10_takesIn_135 rfl ?_
      refine fz_ald (k := 722) (n := 14) (k2 := (723 + 0)) hx hb hK hP 2 rfl (by decide) mE_rowS rfl ⟨by omega, by omega⟩ (by decide) (if_pos (by omega)) dX10_takesIn_136 ?_
      refine lv_iload hx hb dX10_takesIn_137 (lv_at hl 0 rfl) ?_
      refine fz_ld (k := (723 + 0)) (n := 260) hx hb hK hP 0 (by omega) (mE_rowSR (by omega)) rfl ⟨by omega, by omega⟩ (by decide) dX10_takesIn_139 ?_
      rw [show μ (723 + 0) (ee).toNat = (rO w ee.toNat : Int) from (by rw [hfr _ _ (by unfold PT; omega), hrow _ (by omega)]; omega)]
      refine lv_bipush (v := iZ 52) hx hb dX10_takesIn_140 rfl ?_
      refine va_callv (va_runV (As := [.int (iZ (t)), .int (iZ ((rO w ee.toNat : Int))), .int (iZ (52))]) (rest := []) ⟨hx, hb, hml, hown, hts⟩ (m_copies l dC dI cI cZ cII cIII h0 H.size μ (t) ((rO w ee.toNat : Int)) (52) (1 + (rN lx : Int)) (by first | assumption | omega | exact ⟨by omega, by omega⟩) (by decide) (by omega) (by intro _; omega) (by intro _; show 0 ≤ μ 719 52 ∧ μ 719 52 + _ ≤ 900; omega) (by intro _; exact hRx.2.2.1)) (cwV 3 hts (gV_G k1412 k1414 ks_yX10_copies k13 k1415) rfl rfl rfl (by decide +kernel) ⟨by show 2 + 1 ≤ _; omega, by show 8 + (6 + 11) + (38) ≤ _; omega⟩) ⟨fun a U g mk q => by obtain ⟨q0, q1, qP, qK⟩ := q; exact ⟨q0, q1, qP, va_K.moved (u := U) (U := U.calling g mk a) (Vm.Alike.refl U.vm) qK⟩, va_recv hK hP (ci := 10) (q0 := 0) rfl ((fw_get (by decide)).trans (by rw [mE_obj]; rfl)), fun U hU hW => ⟨rfl, by rw [hU], by rw [hU]; exact hP, va_K.moved hW.alike hK⟩⟩ rfl rfl hl.1 rfl (lv_room (Nat.le_of_ble_eq_true rfl)) dX10_takesIn_142 ⟨hRc, hRs⟩) hS (fun q _ h => fA_le hS.1 q h) (fA_le hS.1) (fun u9 t9 H1 locs ht9 hvm9 hw9 hB9 hz9 hk9 hS => ?_)
      obtain ⟨hP, -⟩ := hB9
      rw [ht9] at hP
      generalize H1 = H at hP hS ⊢
      obtain ⟨μx, eμx⟩ : ∃ x : va_M, x = u9 := ⟨_, rfl⟩
      rw [← eμx] at hP hw9
      have hμx := hw9; clear hw9
      obtain ⟨c1, c2, c3⟩ := hμx.2 (by decide)
      have e52 : (52 : Int).toNat = 52 := rfl
      rw [e52] at c1 c2 c3
      have c3 : cpy μ μx t.toNat (rO w ee.toNat) 52 (μ 719 52).toNat (1 + rN lx) := by have h9 := c3; rw [show (rO w ee.toNat : Int).toNat = rO w ee.toNat from rfl, show (1 + (rN lx : Int)).toNat = 1 + rN lx by omega] at h9; exact h9
      have hdS : rdrop (ee.toNat + 1) w = wx := rdrop_S hex
      refine lv_iinc (v := iZ (ee + 1)) (lv' := [(7, .int (iZ (ee + 1))), (0, .ref h0), (1, .int (iZ (t))), (2, .int (iZ (m9)))]) hx hb dX10_takesIn_145 hl (k := 0) rfl (iZ_add _ _) (by decide) rfl (fun ls hl => ?_)
      refine lv_goto (tgt := 123) hx hb dX10_takesIn_148 (by decide) ?_
      exact ih (ee + 1) μx H locs ls (by omega) (by exact fr_trans hfr (fr_mono c1 (fun _ _ h => PG_PT h))) (by rw [show (ee + 1).toNat = ee.toNat + 1 by omega, hrS]; omega) (by
                    rw [show (ee + 1).toNat = ee.toNat + 1 by omega, hdS, show (μx 719 52).toNat = (μ 719 52).toNat + 1 + rN lx by omega]
                    intro u8 ha8 hx8
                    refine hc u8 (fun y hy1 hy2 => ?_) ?_
                    · have h7 := ha8 y hy1 (by omega)
                      rw [h7.1, h7.2.1, h7.2.2]
                      exact ⟨c1 _ _ (by unfold PG; omega), c1 _ _ (by unfold PG; omega), c1 _ _ (by unfold PG; omega)⟩
                    · rw [hex]
                      exact cpy_RA hRx c3 (fun y hy1 hy2 => ha8 y (by omega) (by omega)) hx8) (by omega) hP hS (lv_sub hl [0, 1, 2, 3] rfl)
set_option maxHeartbeats 40000000 in
set_option maxRecDepth 100000 in
theorem m_takesIn1 (l : Launch) (dC : Nat → ClassId) (dI : Nat → Nat → Nat) (cI cZ cII cIII : ClassId) (h0 sz : Nat) (μ : va_M) (t : Int) (m9 : Int) (w : Rw) (k : Int) (so : Int) (f9 : Int) (za : Nat) (va : Int) (la : Rw) (ra : Rw) (ht : 0 ≤ t ∧ t < 70) (hR : RA μ t.toNat w 0) (hN : rN w ≤ 900) (hwf : rWF w) (hHH : rH w ≤ 20) (hrow : rowIs μ 723 w 0) (h260 : rI w ≤ 260) (ht3 : t ≠ 50 ∧ t ≠ 51 ∧ t ≠ 52) (hm9 : m9 = rI w) (hk : 0 ≤ k ∧ 0 ≤ f9) (hso9 : so = rI la) (hf : f9 = k - so) (hit : rdrop k.toNat w = Std.DTreeMap.Internal.Impl.inner za 4 va la ra ∧ nxt la (rdrop f9.toNat w)) : Met l yX10_takesIn (Cond.code yX10_takesIn cX10_takesIn 8 (some .boolean) :: wsG) ({ frames := 25, cells := 0, slots := 0, locals := 770 } : Room) (va_Pc [.ref h0, .int (iZ (t)), .int (iZ (m9)), .int (iZ (k)), .int (iZ (1))] (fun U => U.heap.size = sz ∧ va_P (dC, dI) vwCl (fw (mE cI cZ cII cIII h0) h0 6325 μ) U.heap ∧ va_K (dC, dI) vwCl (mT cI cZ cII cIII) U)) (va_Qi (fun (r9 : Int32) (u : va_M × Int) => r9 = iZ u.2 ∧ (fun (u : va_M) (r : Int) => r = 1 ∧ TR u t.toNat (rtk w f9.toNat (rfus la (rdrop f9.toNat w)) (k.toNat + 1)) ∧ fr (PK t.toNat) μ u) u.1 u.2) (fun u t => va_P (dC, dI) vwCl (fw (mE cI cZ cII cIII h0) h0 6325 u.1) t.heap ∧ va_K (dC, dI) vwCl (mT cI cZ cII cIII) t) (fA h0 6325 sz)) 0 0 (fA h0 6325 sz) := by
  refine Met.ofW (cc := cX10_takesIn) (maxL := 8) (ret := (some .boolean)) (by decide) rfl ?_
  intro p e s m args below meth c s₁ B hml hv
  obtain ⟨rfl, hsz, hP, hK⟩ := hv
  have hx := B.exec
  have hb := B.bytes
  have hr := B.returns
  have hts : ∀ w ∈ wsG, w.before _ s = true := hG_of (atoms_spec (ws := (Cond.code yX10_takesIn cX10_takesIn 8 (some .boolean) :: wsG)) B.pre)
  have hown : s.vm.findClass RX10 = some m.cls := findClass_of_methodNamed B.named
  have hlocks := B.notSynchronized
  subst hsz
  have hS : va_S (fA h0 6325 s.heap.size) s.heap s.heap [] := va_S.rf
  have hl := lv_entry ([.ref h0, .int (iZ (t)), .int (iZ (m9)), .int (iZ (k)), .int (iZ (1))]) (n := 8) (Nat.le_of_ble_eq_true rfl)
  rw [lg_entry_eq]
  generalize (lg_sl ([.ref h0, .int (iZ (t)), .int (iZ (m9)), .int (iZ (k)), .int (iZ (1))]) ++ List.replicate (8 - (lg_sl ([.ref h0, .int (iZ (t)), .int (iZ (m9)), .int (iZ (k)), .int (iZ (1))])).length) Slot.unset).toArray = ls at hl ⊢
  have hl : lv_has ls 8 [(0, .ref h0), (1, .int (iZ (t))), (2, .int (iZ (m9))), (3, .int (iZ (k))), (4, .int (iZ (1)))] := hl
  obtain ⟨e1_, hnx⟩ := hit
  have hIa := rdrop_I k.toNat w
  have hNa := rdrop_N k.toNat w
  have hHa := rdrop_H k.toNat w
  have hWa := rdrop_WF k.toNat w hwf
  have hRa := RA_drop k.toNat w 0 hR
  rw [e1_] at hIa hNa hHa hWa hRa
  rw [rN_in] at hNa; rw [rI_in] at hIa; rw [rH_in] at hHa
  have hSa := rO_S _ _ _ _ _ _ _ e1_
  rw [Nat.zero_add] at hRa
  obtain ⟨a1, a2, a3, a4, _⟩ := hRa
  have hnI := nxt_I _ _ hnx
  rw [rdrop_I] at hnI
  have hfN := nx_N hWa.2.2.2.2.2.2.1 (rdrop_WF f9.toNat w hwf) hnx
  have hmx := rO_mono (k.toNat + 1) (rI w) w (by omega)
  rw [(rO_end w).1] at hmx
  have hmy := rO_mono f9.toNat k.toNat w (by omega)
  have hIl := rI_N2 la
  refine lv_aload_n hx hb dX10_takesIn_0 rfl (lv_at hl 0 rfl) ?_
  refine lv_iload_n hx hb dX10_takesIn_1 rfl (lv_at hl 1 rfl) ?_
  refine lv_aload_n hx hb dX10_takesIn_2 rfl (lv_at hl 0 rfl) ?_
  refine fz_get (D := (dC, dI)) (ci := 10) (v := .ref (h0 + 722)) (C := RX10) (T := TX10) (N := 53) hx hb hts inG10 hown hK hP (k := 0) (by decide) (F := mF h0) mE_obj rfl 29 (by decide) (hts _ k1195) (fun _ h9 => h9) rfl dX10_takesIn_3 ?_
  refine lv_iconst (v := iZ 0) hx hb dX10_takesIn_6 rfl ?_
  refine fz_ald (k := 722) (n := 14) (k2 := (723 + 0)) hx hb hK hP 2 rfl (by decide) mE_rowS rfl ⟨by omega, by omega⟩ (by decide) (if_pos (by omega)) dX10_takesIn_7 ?_
  refine lv_iload_n hx hb dX10_takesIn_8 rfl (lv_at hl 3 rfl) ?_
  refine fz_ld (k := (723 + 0)) (n := 260) hx hb hK hP 0 (by omega) (mE_rowSR (by omega)) rfl ⟨by omega, by omega⟩ (by decide) dX10_takesIn_9 ?_
  rw [show μ (723 + 0) (k).toNat = (rO w k.toNat : Int) from (by rw [hrow _ (by omega)]; omega)]
  refine va_calli (va_runV (As := [.int (iZ (t)), .int (iZ ((rO w k.toNat : Int)))]) (rest := []) ⟨hx, hb, hml, hown, hts⟩ (m_itemsIn l dC dI cI cZ cII cIII h0 s.heap.size μ (t) ((rO w k.toNat : Int)) (la) (by first | assumption | omega | exact ⟨by omega, by omega⟩) (by omega) (by exact a3) (by exact a4)) (cwV 2 hts (gV_G k1400 k1402 ks_yX10_itemsIn k13 k1403) rfl rfl rfl (by decide +kernel) ⟨Nat.le_of_ble_eq_true rfl, Nat.le_of_ble_eq_true rfl⟩) ⟨fun a U g mk q => by obtain ⟨q0, q1, qP, qK⟩ := q; exact ⟨q0, q1, qP, va_K.moved (u := U) (U := U.calling g mk a) (Vm.Alike.refl U.vm) qK⟩, va_recv hK hP (ci := 10) (q0 := 0) rfl ((fw_get (by decide)).trans (by rw [mE_obj]; rfl)), fun U hU hW => ⟨rfl, by rw [hU], by rw [hU]; exact hP, va_K.moved hW.alike hK⟩⟩ rfl rfl hl.1 rfl (lv_room (Nat.le_of_ble_eq_true rfl)) dX10_takesIn_10 ⟨Nat.le_of_ble_eq_true rfl, Nat.le_of_ble_eq_true rfl⟩) hS (fun q _ h => fA_le hS.1 q h) (fA_le hS.1) (fun r9 u9 t9 H1 locs ht9 hvm9 hw9 hB9 hz9 hk9 hS => ?_)
  obtain ⟨μ1, r1_⟩ := u9
  obtain ⟨hP, -⟩ := hB9
  rw [ht9] at hP
  generalize H1 = H at hP hS ⊢
  obtain ⟨e9, hw9⟩ := hw9
  have e9 : r9 = iZ r1_ := e9
  subst e9
  simp only at hP hw9
  have hμ1 := hw9; clear hw9
  rw [hμ1.1] at hP; have hμ1 := hμ1.2
  have hso : r1_ = rI la := hμ1
  obtain rfl : so = r1_ := by omega
  refine lv_istore (lv' := [(5, .int (iZ (so))), (0, .ref h0), (1, .int (iZ (t))), (2, .int (iZ (m9))), (3, .int (iZ (k))), (4, .int (iZ (1)))]) hx hb dX10_takesIn_13 hl (by decide) rfl (fun ls hl => ?_)
  refine lv_iload hx hb dX10_takesIn_15 (lv_at hl 5 rfl) ?_
  refine fz_if_eq (tgt := 27) (by decide) hx hb dX10_takesIn_17 (by decide) (fun h9 => absurd h9 (by decide)) (fun c17_ => ?_)
  refine lv_iload_n hx hb dX10_takesIn_20 rfl (lv_at hl 4 rfl) ?_
  refine lv_iload hx hb dX10_takesIn_21 (lv_at hl 0 rfl) ?_
  refine lv_isub hx hb dX10_takesIn_23 ?_
  refine lv_topi (fun x9 ex9 => ?_)
  obtain rfl : x9 = iZ (k - so) := ex9.trans (iZ_sub _ _)
  rw [show k - so = f9 from (by omega)]
  refine lv_goto (tgt := 30) hx hb dX10_takesIn_24 (by decide) ?_
  refine lv_istore (lv' := [(6, .int (iZ (f9))), (5, .int (iZ (so))), (0, .ref h0), (1, .int (iZ (t))), (2, .int (iZ (m9))), (3, .int (iZ (k))), (4, .int (iZ (1)))]) hx hb dX10_takesIn_30 hl (by decide) rfl (fun ls hl => ?_)
  refine lv_aload_n hx hb dX10_takesIn_32 rfl (lv_at hl 2 rfl) ?_
  refine lv_bipush (v := iZ 52) hx hb dX10_takesIn_33 rfl ?_
  refine va_callv (va_runV (As := [.int (iZ (52))]) (rest := []) ⟨hx, hb, hml, hown, hts⟩ (m_empties l dC dI cI cZ cII cIII h0 H.size μ (52) (by first | assumption | omega | exact ⟨by omega, by omega⟩)) (cwV 1 hts (gV_G k1373 k1375 ks_yX10_empties k13 k1376) rfl rfl rfl (by decide +kernel) ⟨Nat.le_of_ble_eq_true rfl, Nat.le_of_ble_eq_true rfl⟩) ⟨fun a U g mk q => by obtain ⟨q0, q1, qP, qK⟩ := q; exact ⟨q0, q1, qP, va_K.moved (u := U) (U := U.calling g mk a) (Vm.Alike.refl U.vm) qK⟩, va_recv hK hP (ci := 10) (q0 := 0) rfl ((fw_get (by decide)).trans (by rw [mE_obj]; rfl)), fun U hU hW => ⟨rfl, by rw [hU], by rw [hU]; exact hP, va_K.moved hW.alike hK⟩⟩ rfl rfl hl.1 rfl (lv_room (Nat.le_of_ble_eq_true rfl)) dX10_takesIn_35 ⟨Nat.le_of_ble_eq_true rfl, Nat.le_of_ble_eq_true rfl⟩) hS (fun q _ h => fA_le hS.1 q h) (fA_le hS.1) (fun u9 t9 H1 locs ht9 hvm9 hw9 hB9 hz9 hk9 hS => ?_)
  obtain ⟨hP, -⟩ := hB9
  rw [ht9] at hP
  generalize H1 = H at hP hS ⊢
  obtain ⟨μa, eμa⟩ : ∃ x : va_M, x = u9 := ⟨_, rfl⟩
  rw [← eμa] at hP hw9
  have hμa := hw9; clear hw9
  rw [show (52 : Int).toNat = 52 from rfl] at hμa
  have fa : fr (PT 52) μ μa := by rw [hμa]; exact fr_uz fr_rfl (by unfold PT; omega)
  have h52 : μa 719 52 = 0 := by rw [hμa, uz_s]
  have hcfa : ∀ x, μa (507 + t.toNat) x = μ (507 + t.toNat) x ∧ μa (578 + t.toNat) x = μ (578 + t.toNat) x ∧ μa (649 + t.toNat) x = μ (649 + t.toNat) x := fun x => ⟨fa _ x (by unfold PT; omega), fa _ x (by unfold PT; omega), fa _ x (by unfold PT; omega)⟩
  have h00 : rO w 0 = 0 := by cases w <;> rfl
  refine lv_iconst (v := iZ 0) hx hb dX10_takesIn_38 rfl ?_
  refine lv_istore (lv' := [(7, .int (iZ (0))), (6, .int (iZ (f9))), (5, .int (iZ (so))), (0, .ref h0), (1, .int (iZ (t))), (2, .int (iZ (m9))), (3, .int (iZ (k))), (4, .int (iZ (1)))]) hx hb dX10_takesIn_39 hl (by decide) rfl (fun ls hl => ?_)
  refine LX10_takesIn_41a1 hx hb hml hown hts hK (Nat.le_of_ble_eq_true rfl) (Nat.le_of_ble_eq_true rfl) (Nat.le_of_ble_eq_true rfl) (Nat.le_of_ble_eq_true rfl) (μa) (t) (m9) (w) (k) (so) (f9) (by assumption) (by exact RA_kept hR (fun x _ _ => hcfa x)) (by assumption) (by assumption) (by assumption) (by exact fun m hm => by rw [fa _ _ (by unfold PT; omega)]; exact hrow m hm) (by assumption) (by assumption) (by assumption) (by omega) ?_ _ (0) μa H locs ls (by omega) (by exact fr_rfl) (by rw [h52]; show (0 : Int) = (rO w 0 : Int); rw [h00]; rfl) (by
            intro u8 x _ hx8
            have hx8 : RA u8 52 x (rO w 0) := hx8
            rw [h00] at hx8
            exact hx8) (Nat.lt_succ_self _) hP hS (lv_sub hl [0, 1, 2, 7, 6, 5, 4, 3] rfl)
  · intro ee_2 μ2_ H locs ls q1_2 q2_2 q3_2 hP hS hl
    have hl : lv_has ls 8 [(6, .int (iZ (f9))), (5, .int (iZ (so))), (4, .int (iZ (1))), (3, .int (iZ (k))), (2, .int (iZ (m9))), (1, .int (iZ (t))), (0, .ref h0)] := hl
    have G1_ := q1_2
    have G2_ := q2_2
    have G3_ := q3_2
    have fp : fr (PT 52) μ μ2_ := fr_trans fa G1_
    have hcfp : ∀ x, μ2_ (507 + t.toNat) x = μ (507 + t.toNat) x ∧ μ2_ (578 + t.toNat) x = μ (578 + t.toNat) x ∧ μ2_ (649 + t.toNat) x = μ (649 + t.toNat) x := fun x => ⟨fp _ x (by unfold PT; omega), fp _ x (by unfold PT; omega), fp _ x (by unfold PT; omega)⟩
    have eN : (μ2_ 719 52).toNat = rO w f9.toNat := by omega
    have hrowp : rowIs μ2_ 723 w 0 := fun m hm => by rw [fp _ _ (by unfold PT; omega)]; exact hrow m hm
    have hRp : RA μ2_ t.toNat w 0 := RA_kept hR (fun x _ _ => hcfp x)
    refine lv_aload_n hx hb dX10_takesIn_79 rfl (lv_at hl 6 rfl) ?_
    refine lv_iload_n hx hb dX10_takesIn_80 rfl (lv_at hl 5 rfl) ?_
    refine lv_aload_n hx hb dX10_takesIn_81 rfl (lv_at hl 6 rfl) ?_
    refine fz_get (D := (dC, dI)) (ci := 10) (v := .ref (h0 + 722)) (C := RX10) (T := TX10) (N := 53) hx hb hts inG10 hown hK hP (k := 0) (by decide) (F := mF h0) mE_obj rfl 29 (by decide) (hts _ k1195) (fun _ h9 => h9) rfl dX10_takesIn_82 ?_
    refine lv_iconst (v := iZ 0) hx hb dX10_takesIn_85 rfl ?_
    refine fz_ald (k := 722) (n := 14) (k2 := (723 + 0)) hx hb hK hP 2 rfl (by decide) mE_rowS rfl ⟨by omega, by omega⟩ (by decide) (if_pos (by omega)) dX10_takesIn_86 ?_
    refine lv_iload_n hx hb dX10_takesIn_87 rfl (lv_at hl 3 rfl) ?_
    refine fz_ld (k := (723 + 0)) (n := 260) hx hb hK hP 0 (by omega) (mE_rowSR (by omega)) rfl ⟨by omega, by omega⟩ (by decide) dX10_takesIn_88 ?_
    rw [show μ2_ (723 + 0) (k).toNat = (rO w k.toNat : Int) from (by rw [fp _ _ (by unfold PT; omega), hrow _ (by omega)]; omega)]
    refine lv_iload_n hx hb dX10_takesIn_89 rfl (lv_at hl 5 rfl) ?_
    refine lv_aload_n hx hb dX10_takesIn_90 rfl (lv_at hl 6 rfl) ?_
    refine fz_get (D := (dC, dI)) (ci := 10) (v := .ref (h0 + 722)) (C := RX10) (T := TX10) (N := 53) hx hb hts inG10 hown hK hP (k := 0) (by decide) (F := mF h0) mE_obj rfl 29 (by decide) (hts _ k1195) (fun _ h9 => h9) rfl dX10_takesIn_91 ?_
    refine lv_iconst (v := iZ 0) hx hb dX10_takesIn_94 rfl ?_
    refine fz_ald (k := 722) (n := 14) (k2 := (723 + 0)) hx hb hK hP 2 rfl (by decide) mE_rowS rfl ⟨by omega, by omega⟩ (by decide) (if_pos (by omega)) dX10_takesIn_95 ?_
    refine lv_iload hx hb dX10_takesIn_96 (lv_at hl 0 rfl) ?_
    refine lv_bipush (v := iZ 52) hx hb dX10_takesIn_98 rfl ?_
    refine va_calli (va_runV (As := [.int (iZ (t)), .int (iZ ((rO w k.toNat : Int))), .int (iZ (t)), .ref (h0 + (723 + 0)), .int (iZ (f9)), .int (iZ (52))]) (rest := []) ⟨hx, hb, hml, hown, hts⟩ (m_fusesRow l dC dI cI cZ cII cIII h0 H.size μ2_ (t) ((rO w k.toNat : Int)) (t) (723) (f9) (52) (4) (va) (la) (w) (0) (by first | assumption | omega | exact ⟨by omega, by omega⟩) (by first | assumption | omega | exact ⟨by omega, by omega⟩) (by omega) (by exact ⟨by rw [(hcfp _).1]; exact a1, by rw [(hcfp _).2.1]; exact a2, by rw [(hcfp _).2.2]; exact a3, RA_kept a4 (fun x _ _ => hcfp x)⟩) (by exact ⟨hWa.1, hWa.2.1, hWa.2.2.1, hWa.2.2.2.1, hWa.2.2.2.2.1, hWa.2.2.2.2.2.1, hWa.2.2.2.2.2.2.1⟩) (by exact Or.inl ⟨by omega, by omega⟩) (by exact hrowp) (by exact hRp) (by omega) (by exact hwf) (by exact h260) (by omega) (by omega) (by omega) (by exact hnx) (by intro _; show 0 ≤ μ2_ 719 52 ∧ μ2_ 719 52 + 1 + _ ≤ 900; omega)) (cwV 6 hts (gV_G k1468 k1470 ks_yX10_fusesRow k13 k1471) rfl rfl rfl (by decide +kernel) ⟨Nat.le_of_ble_eq_true rfl, Nat.le_of_ble_eq_true rfl⟩) ⟨fun a U g mk q => by obtain ⟨q0, q1, qP, qK⟩ := q; exact ⟨q0, q1, qP, va_K.moved (u := U) (U := U.calling g mk a) (Vm.Alike.refl U.vm) qK⟩, va_recv hK hP (ci := 10) (q0 := 0) rfl ((fw_get (by decide)).trans (by rw [mE_obj]; rfl)), fun U hU hW => ⟨rfl, by rw [hU], by rw [hU]; exact hP, va_K.moved hW.alike hK⟩⟩ rfl rfl hl.1 rfl (lv_room (Nat.le_of_ble_eq_true rfl)) dX10_takesIn_100 ⟨Nat.le_of_ble_eq_true rfl, Nat.le_of_ble_eq_true rfl⟩) hS (fun q _ h => fA_le hS.1 q h) (fA_le hS.1) (fun r9 u9 t9 H1 locs ht9 hvm9 hw9 hB9 hz9 hk9 hS => ?_)
    obtain ⟨μb, r3⟩ := u9
    obtain ⟨hP, -⟩ := hB9
    rw [ht9] at hP
    generalize H1 = H at hP hS ⊢
    obtain ⟨e9, hw9⟩ := hw9
    have e9 : r9 = iZ r3 := e9
    subst e9
    simp only at hP hw9
    have hμb := hw9; clear hw9
    obtain ⟨c1, c2, c3⟩ := hμb.2.1 (by decide)
    rw [show (52 : Int).toNat = 52 from rfl] at c1 c2 c3
    rw [eN] at c1 c3
    have hZ : (k + 1).toNat = k.toNat + 1 := by omega
    have fb : fr (PT 52) μ μb := fr_trans fp (fr_mono c1 (fun _ _ h => PG_PT h))
    have hcfb : ∀ x, μb (507 + t.toNat) x = μ (507 + t.toNat) x ∧ μb (578 + t.toNat) x = μ (578 + t.toNat) x ∧ μb (649 + t.toNat) x = μ (649 + t.toNat) x := fun x => ⟨fb _ x (by unfold PT; omega), fb _ x (by unfold PT; omega), fb _ x (by unfold PT; omega)⟩
    refine lv_pop hx hb dX10_takesIn_103 rfl ?_
    refine lv_iload hx hb dX10_takesIn_104 (lv_at hl 2 rfl) ?_
    refine fz_if_eq (tgt := 115) (by decide) hx hb dX10_takesIn_106 (by decide) (fun h9 => absurd h9 (by decide)) (fun c106_ => ?_)
    refine lv_iload_n hx hb dX10_takesIn_109 rfl (lv_at hl 3 rfl) ?_
    refine lv_iconst (v := iZ 1) hx hb dX10_takesIn_110 rfl ?_
    refine lv_iadd hx hb dX10_takesIn_111 ?_
    refine lv_topi (fun x9 ex9 => ?_)
    obtain rfl : x9 = iZ (k + 1) := ex9.trans (iZ_add _ _)
    refine lv_goto (tgt := 121) hx hb dX10_takesIn_112 (by decide) ?_
    refine lv_istore (lv' := [(7, .int (iZ (k + 1))), (6, .int (iZ (f9))), (5, .int (iZ (so))), (4, .int (iZ (1))), (3, .int (iZ (k))), (2, .int (iZ (m9))), (1, .int (iZ (t))), (0, .ref h0)]) hx hb dX10_takesIn_121 hl (by decide) rfl (fun ls hl => ?_)
    refine LX10_takesIn_123b1 hx hb hml hown hts hK (Nat.le_of_ble_eq_true rfl) (Nat.le_of_ble_eq_true rfl) (Nat.le_of_ble_eq_true rfl) (Nat.le_of_ble_eq_true rfl) (μb) (t) (m9) (w) (k + 1) (μb 719 52) ((rtk w f9.toNat (rfus la (rdrop f9.toNat w)) (k.toNat + 1))) (by assumption) (by exact RA_kept hR (fun x _ _ => hcfb x)) (by assumption) (by assumption) (by assumption) (by exact fun m hm => by rw [fb _ _ (by unfold PT; omega)]; exact hrow m hm) (by assumption) (by assumption) (by assumption) (by
                rw [hZ]
                show 0 ≤ μb 719 52 ∧ μb 719 52 + (rN w - rO w (k.toNat + 1)) ≤ 900
                omega) (by omega) ?_ _ (k + 1) μb H locs ls (by omega) (by exact fr_rfl) (by omega) (by
                rw [hZ]
                intro u8 ha8 hx8
                unfold rtk
                refine G3_ u8 _ (fun y hy1 hy2 => ?_) ?_
                · have h7 := ha8 y hy1 (by omega)
                  rw [h7.1, h7.2.1, h7.2.2]
                  exact ⟨c1 _ _ (by unfold PG; omega), c1 _ _ (by unfold PG; omega), c1 _ _ (by unfold PG; omega)⟩
                · have h7 := ha8 (rO w f9.toNat) (by omega) (by omega)
                  refine ⟨h7.1.trans c3.1, h7.2.1.trans c3.2.1, h7.2.2.trans c3.2.2.1, RA_kept c3.2.2.2 (fun y hy1 hy2 => ha8 y (by omega) (by omega)), ?_⟩
                  rw [show rO w f9.toNat + 1 + rN (rfus la (rdrop f9.toNat w)) = (μb 719 52).toNat by omega]
                  exact hx8) (Nat.lt_succ_self _) hP hS (lv_sub hl [0, 7, 6, 5] rfl)
    · intro ee_4 μ4_ H locs ls q1_4 q2_4 q3_4 hP hS hl
      have hl : lv_has ls 8 [(0, .ref h0), (1, .int (iZ (t)))] := hl
      have v1_ := q1_4
      have v2_ := q2_4
      have v3_ := q3_4
      have fd : fr (PT 52) μ μ4_ := fr_trans fb v1_
      have hNd := rdrop_N (k.toNat + 1) w
      have hNF : rN (rtk w f9.toNat (rfus la (rdrop f9.toNat w)) (k.toNat + 1)) = rO w f9.toNat + (1 + rN (rfus la (rdrop f9.toNat w)) + rN (rdrop (k.toNat + 1) w)) := by unfold rtk; rw [rpre_N _ _ _ (by omega), rN_in]
      rw [hZ] at v2_
      refine lv_aload_n hx hb dX10_takesIn_151 rfl (lv_at hl 0 rfl) ?_
      refine lv_bipush (v := iZ 52) hx hb dX10_takesIn_152 rfl ?_
      refine lv_iload_n hx hb dX10_takesIn_154 rfl (lv_at hl 1 rfl) ?_
      refine va_callv (va_runV (As := [.int (iZ (52)), .int (iZ (t))]) (rest := []) ⟨hx, hb, hml, hown, hts⟩ (m_copiesAll l dC dI cI cZ cII cIII h0 H.size μ4_ (52) (t) ((rtk w f9.toNat (rfus la (rdrop f9.toNat w)) (k.toNat + 1))) (by decide) (by first | assumption | omega | exact ⟨by omega, by omega⟩) (by omega) (by exact ⟨by show μ4_ 719 52 = _; omega, v3_⟩) (by omega)) (cwV 2 hts (gV_G k1424 k1426 ks_yX10_copiesAll k13 k1427) rfl rfl rfl (by decide +kernel) ⟨Nat.le_of_ble_eq_true rfl, Nat.le_of_ble_eq_true rfl⟩) ⟨fun a U g mk q => by obtain ⟨q0, q1, qP, qK⟩ := q; exact ⟨q0, q1, qP, va_K.moved (u := U) (U := U.calling g mk a) (Vm.Alike.refl U.vm) qK⟩, va_recv hK hP (ci := 10) (q0 := 0) rfl ((fw_get (by decide)).trans (by rw [mE_obj]; rfl)), fun U hU hW => ⟨rfl, by rw [hU], by rw [hU]; exact hP, va_K.moved hW.alike hK⟩⟩ rfl rfl hl.1 rfl (lv_room (Nat.le_of_ble_eq_true rfl)) dX10_takesIn_155 ⟨Nat.le_of_ble_eq_true rfl, Nat.le_of_ble_eq_true rfl⟩) hS (fun q _ h => fA_le hS.1 q h) (fA_le hS.1) (fun u9 t9 H1 locs ht9 hvm9 hw9 hB9 hz9 hk9 hS => ?_)
      obtain ⟨hP, -⟩ := hB9
      rw [ht9] at hP
      generalize H1 = H at hP hS ⊢
      obtain ⟨μ5, eμ5⟩ : ∃ x : va_M, x = u9 := ⟨_, rfl⟩
      rw [← eμ5] at hP hw9
      have hμ5 := hw9; clear hw9
      refine lv_iconst (v := iZ 1) hx hb dX10_takesIn_158 rfl ?_
      exact W.zret (v := iZ (1)) hx hb hr (by decide +kernel) (fun t9 ht9 hW9 => ⟨⟨iZ (1), (μ5, 1), rfl, ⟨rfl, (by
                    dsimp only
                    exact ⟨rfl, hμ5.1, fr_trans (fr_mono fd (fun _ _ h => Or.inl h)) (fr_mono hμ5.2 (fun _ _ h => Or.inr h))⟩)⟩, by rw [ht9]; exact hP, va_K.moved hW9.alike hK⟩, hS.F ht9⟩) hS.2.2 dX10_takesIn_159
set_option maxHeartbeats 40000000 in
set_option maxRecDepth 100000 in
theorem LX10_takesIn_41a0 {p : Program} {l : Launch} {e : Env} {R : Room} {s : State} {m : MethodId} {args : Array Value} {below : List Frame} {meth : Method} {c : Code} {cells slots : Nat} {Q : State → Prop} {dC : Nat → ClassId} {dI : Nat → Nat → Nat} {h0 : Nat} {cI cZ cII cIII : ClassId} (hx : p.tables.exec = Jvm.exec) (hb : c.code = cX10_takesIn) (hml : c.maxLocals = 8) (hown : s.vm.findClass RX10 = some m.cls) (hts : ∀ w ∈ wsG, w.before args s = true) (hK : va_K (dC, dI) vwCl (mT cI cZ cII cIII) s) (hRf : 25 ≤ R.frames) (hRl : 770 ≤ R.locals) (hRc : cells ≤ R.cells) (hRs : slots ≤ R.slots) (μ0 : va_M) (t : Int) (m9 : Int) (w : Rw) (k : Int) (so : Int) (f9 : Int) (ht : 0 ≤ t ∧ t < 70) (hR : RA μ0 t.toNat w 0) (hN : rN w ≤ 900) (hwf : rWF w) (hHH : rH w ≤ 20) (hrow : rowIs μ0 723 w 0) (h260 : rI w ≤ 260) (ht3 : t ≠ 50 ∧ t ≠ 51 ∧ t ≠ 52) (hm9 : m9 = rI w) (ha : 0 ≤ k ∧ k ≤ rI w) (hexit79 : ∀ (ee : Int) (μ : va_M) (H : Heap) (locs : List Loc) (ls : Array Slot), (fr (PT 52) μ0 μ) → (μ 719 52 = rO w k.toNat) → (∀ (u8 : va_M) (x : Rw), agr μ u8 52 0 (rO w k.toNat) → RA u8 52 x (rO w k.toNat) → RA u8 52 (rpre k.toNat w x) 0) → va_P (dC, dI) vwCl (fw (mE cI cZ cII cIII h0) h0 6325 μ) H → va_S (fA h0 6325 s.heap.size) s.heap H locs → lv_has ls 8 [(6, .int (iZ (f9))), (5, .int (iZ (so))), (4, .int (iZ (0))), (3, .int (iZ (k))), (2, .int (iZ (m9))), (1, .int (iZ (t))), (0, .ref h0)] → W p l e R s m args below meth c H locs cells slots Q (F0 m 79 ls [])) :
    ∀ (n9 : Nat) (ee : Int) (μ : va_M) (H : Heap) (locs : List Loc) (ls : Array Slot), (0 ≤ ee ∧ ee ≤ k) → (fr (PT 52) μ0 μ) → (μ 719 52 = rO w ee.toNat) → (∀ (u8 : va_M) (x : Rw), agr μ u8 52 0 (rO w ee.toNat) → RA u8 52 x (rO w ee.toNat) → RA u8 52 (rpre ee.toNat w x) 0) → (k - ee).toNat < n9 → va_P (dC, dI) vwCl (fw (mE cI cZ cII cIII h0) h0 6325 μ) H → va_S (fA h0 6325 s.heap.size) s.heap H locs → lv_has ls 8 [(7, .int (iZ (ee))), (6, .int (iZ (f9))), (5, .int (iZ (so))), (4, .int (iZ (0))), (3, .int (iZ (k))), (2, .int (iZ (m9))), (1, .int (iZ (t))), (0, .ref h0)] → W p l e R s m args below meth c H locs cells slots Q (F0 m 41 ls []) := by
  intro n9
  induction n9 with
  | zero => intro ee μ H locs ls hk hfr hN5 hc hm9 hP hS hl; exact absurd hm9 (Nat.not_lt_zero _)
  | succ n9 ih =>
    intro ee μ H locs ls hk hfr hN5 hc hm9 hP hS hl
    refine lv_iload hx hb dX10_takesIn_41 (lv_at hl 0 rfl) ?_
    refine lv_iload hx hb dX10_takesIn_43 (lv_at hl 3 rfl) ?_
    refine fz_if_eq (tgt := 53) (by decide) hx hb dX10_takesIn_45 (by decide) (fun c45_ => ?_) (fun h9 => absurd h9 (by decide))
    refine lv_iload_n hx hb dX10_takesIn_53 rfl (lv_at hl 4 rfl) ?_
    refine fz_icmp_ge (tgt := 79) (by constructor <;> omega) (by constructor <;> omega) hx hb dX10_takesIn_54 (by decide) (fun c54_ => ?_) (fun c54_ => ?_)
    · exact hexit79 (ee) μ H locs ls (by exact hfr) (by
                    have hee : ee = k := by omega
                    rw [hee] at hN5
                    exact hN5) (by
                    have hee : ee = k := by omega
                    rw [hee] at hc
                    exact hc) hP hS (lv_sub hl [1, 2, 3, 4, 5, 6, 7] rfl)
    · have hIx := rdrop_I (ee.toNat) w
      have hNx := rdrop_N (ee.toNat) w
      have hHx := rdrop_H (ee.toNat) w
      have hFx := rdrop_WF (ee.toNat) w hwf
      have hRx := RA_drop (ee.toNat) w 0 hR
      obtain ⟨zx, kx, vx, lx, wx, hex⟩ := rI_pos (w := rdrop (ee.toNat) w) (by omega)
      rw [hex] at hIx hNx hHx hFx hRx
      rw [rN_in] at hNx; rw [rI_in] at hIx; rw [rH_in] at hHx
      obtain ⟨rx1, rx2, rx3, rx4, rx5⟩ := hRx
      rw [Nat.zero_add] at rx1 rx2 rx3 rx4
      have fxA : iWF kx vx lx := ⟨hFx.1, hFx.2.1, hFx.2.2.1, hFx.2.2.2.1, hFx.2.2.2.2.1, hFx.2.2.2.2.2.1, hFx.2.2.2.2.2.2.1⟩
      have hrS := rO_S _ _ _ _ _ _ _ hex
      have hcell : ∀ x, μ (507 + t.toNat) x = μ0 (507 + t.toNat) x ∧ μ (578 + t.toNat) x = μ0 (578 + t.toNat) x ∧ μ (649 + t.toNat) x = μ0 (649 + t.toNat) x := fun x => ⟨hfr _ _ (by unfold PT; omega), hfr _ _ (by unfold PT; omega), hfr _ _ (by unfold PT; omega)⟩
      have hRx : RA μ t.toNat (Std.DTreeMap.Internal.Impl.inner zx kx vx lx wx) (rO w ee.toNat) := RA_kept ⟨rx1, rx2, rx3, rx4, by rw [Nat.zero_add] at rx5; exact rx5⟩ (fun x _ _ => hcell x)
      refine lv_aload_n hx hb dX10_takesIn_57 rfl (lv_at hl 7 rfl) ?_
      refine lv_iload_n hx hb dX10_takesIn_58 rfl (lv_at hl 6 rfl) ?_
      refine lv_aload_n hx hb dX10_takesIn_59 rfl (lv_at hl 7 rfl) ?_
      refine fz_get (D := (dC, dI)) (ci := 10) (v := .ref (h0 + 722)) (C := RX10) (T := TX10) (N := 53) hx hb hts inG10 hown hK hP (k := 0) (by decide) (F := mF h0) mE_obj rfl 29 (by decide) (hts _ k1195) (fun _ h9 => h9) rfl dX10_takesIn_60 ?_
      refine lv_iconst (v := iZ 0) hx hb dX10_takesIn_63 rfl ?_
      refine fz_ald (k := 722) (n := 14) (k2 := (723 + 0)) hx hb hK hP 2 rfl (by decide) mE_rowS rfl ⟨by omega, by omega⟩ (by decide) (if_pos (by omega)) dX10_takesIn_64 ?_
      refine lv_iload hx hb dX10_takesIn_65 (lv_at hl 0 rfl) ?_
      refine fz_ld (k := (723 + 0)) (n := 260) hx hb hK hP 0 (by omega) (mE_rowSR (by omega)) rfl ⟨by omega, by omega⟩ (by decide) dX10_takesIn_67 ?_
      rw [show μ (723 + 0) (ee).toNat = (rO w ee.toNat : Int) from (by rw [hfr _ _ (by unfold PT; omega), hrow _ (by omega)]; omega)]
      refine lv_bipush (v := iZ 52) hx hb dX10_takesIn_68 rfl ?_
      refine va_callv (va_runV (As := [.int (iZ (t)), .int (iZ ((rO w ee.toNat : Int))), .int (iZ (52))]) (rest := []) ⟨hx, hb, hml, hown, hts⟩ (m_copies l dC dI cI cZ cII cIII h0 H.size μ (t) ((rO w ee.toNat : Int)) (52) (1 + (rN lx : Int)) (by first | assumption | omega | exact ⟨by omega, by omega⟩) (by decide) (by omega) (by intro _; omega) (by intro _; show 0 ≤ μ 719 52 ∧ μ 719 52 + _ ≤ 900; omega) (by intro _; exact hRx.2.2.1)) (cwV 3 hts (gV_G k1412 k1414 ks_yX10_copies k13 k1415) rfl rfl rfl (by decide +kernel) ⟨by show 2 + 1 ≤ _; omega, by show 8 + (6 + 11) + (38) ≤ _; omega⟩) ⟨fun a U g mk q => by obtain ⟨q0, q1, qP, qK⟩ := q; exact ⟨q0, q1, qP, va_K.moved (u := U) (U := U.calling g mk a) (Vm.Alike.refl U.vm) qK⟩, va_recv hK hP (ci := 10) (q0 := 0) rfl ((fw_get (by decide)).trans (by rw [mE_obj]; rfl)), fun U hU hW => ⟨rfl, by rw [hU], by rw [hU]; exact hP, va_K.moved hW.alike hK⟩⟩ rfl rfl hl.1 rfl (lv_room (Nat.le_of_ble_eq_true rfl)) dX10_takesIn_70 ⟨hRc, hRs⟩) hS (fun q _ h => fA_le hS.1 q h) (fA_le hS.1) (fun u9 t9 H1 locs ht9 hvm9 hw9 hB9 hz9 hk9 hS => ?_)
      obtain ⟨hP, -⟩ := hB9
      rw [ht9] at hP
      generalize H1 = H at hP hS ⊢
      obtain ⟨μx, eμx⟩ : ∃ x : va_M, x = u9 := ⟨_, rfl⟩
      rw [← eμx] at hP hw9
      have hμx := hw9; clear hw9
      obtain ⟨c1, c2, c3⟩ := hμx.2 (by decide)
      have e52 : (52 : Int).toNat = 52 := rfl
      rw [e52] at c1 c2 c3
      have eN : (μ 719 52).toNat = rO w ee.toNat := by omega
      rw [eN] at c1 c3
      have c3 : cpy μ μx t.toNat (rO w ee.toNat) 52 (rO w ee.toNat) (1 + rN lx) := by have := c3; rw [show (rO w ee.toNat : Int).toNat = rO w ee.toNat from rfl, show (1 + (rN lx : Int)).toNat = 1 + rN lx by omega] at this; exact this
      refine lv_iinc (v := iZ (ee + 1)) (lv' := [(7, .int (iZ (ee + 1))), (6, .int (iZ (f9))), (5, .int (iZ (so))), (4, .int (iZ (0))), (3, .int (iZ (k))), (2, .int (iZ (m9))), (1, .int (iZ (t))), (0, .ref h0)]) hx hb dX10_takesIn_73 hl (k := 0) rfl (iZ_add _ _) (by decide) rfl (fun ls hl => ?_)
      refine lv_goto (tgt := 41) hx hb dX10_takesIn_76 (by decide) ?_
      exact ih (ee + 1) μx H locs ls (by omega) (by exact fr_trans hfr (fr_mono c1 (fun _ _ h => PG_PT h))) (by rw [show (ee + 1).toNat = ee.toNat + 1 by omega, hrS]; omega) (by
                    rw [show (ee + 1).toNat = ee.toNat + 1 by omega, hrS]
                    intro u8 x ha8 hx8
                    rw [rpre_S _ _ _ _ _ _ _ _ hex]
                    refine hc u8 _ (fun y hy1 hy2 => ?_) (cpy_RA hRx c3 (fun y hy1 hy2 => ha8 y (by omega) (by omega)) hx8)
                    have h7 := ha8 y (by omega) (by omega)
                    rw [h7.1, h7.2.1, h7.2.2]
                    exact ⟨c1 _ _ (by unfold PG; omega), c1 _ _ (by unfold PG; omega), c1 _ _ (by unfold PG; omega)⟩) (by omega) hP hS (lv_sub hl [0, 1, 2, 3, 4, 5, 6, 7] rfl)
set_option maxHeartbeats 40000000 in
set_option maxRecDepth 100000 in
theorem LX10_takesIn_123b0 {p : Program} {l : Launch} {e : Env} {R : Room} {s : State} {m : MethodId} {args : Array Value} {below : List Frame} {meth : Method} {c : Code} {cells slots : Nat} {Q : State → Prop} {dC : Nat → ClassId} {dI : Nat → Nat → Nat} {h0 : Nat} {cI cZ cII cIII : ClassId} (hx : p.tables.exec = Jvm.exec) (hb : c.code = cX10_takesIn) (hml : c.maxLocals = 8) (hown : s.vm.findClass RX10 = some m.cls) (hts : ∀ w ∈ wsG, w.before args s = true) (hK : va_K (dC, dI) vwCl (mT cI cZ cII cIII) s) (hRf : 25 ≤ R.frames) (hRl : 770 ≤ R.locals) (hRc : cells ≤ R.cells) (hRs : slots ≤ R.slots) (μ0 : va_M) (t : Int) (m9 : Int) (w : Rw) (k0 : Int) (c0 : Int) (fin : Rw) (ht : 0 ≤ t ∧ t < 70) (hR : RA μ0 t.toNat w 0) (hN : rN w ≤ 900) (hwf : rWF w) (hHH : rH w ≤ 20) (hrow : rowIs μ0 723 w 0) (h260 : rI w ≤ 260) (ht3 : t ≠ 50 ∧ t ≠ 51 ∧ t ≠ 52) (hm9 : m9 = rI w) (hcap : 0 ≤ c0 ∧ c0 + (rN w - rO w k0.toNat) ≤ 900) (hk0 : 0 ≤ k0 ∧ k0 ≤ rI w) (hexit151 : ∀ (ee : Int) (μ : va_M) (H : Heap) (locs : List Loc) (ls : Array Slot), (fr (PT 52) μ0 μ) → (μ 719 52 = c0 + (rN w - rO w k0.toNat)) → (RA μ 52 fin 0) → va_P (dC, dI) vwCl (fw (mE cI cZ cII cIII h0) h0 6325 μ) H → va_S (fA h0 6325 s.heap.size) s.heap H locs → lv_has ls 8 [(0, .ref h0), (1, .int (iZ (t)))] → W p l e R s m args below meth c H locs cells slots Q (F0 m 151 ls [])) :
    ∀ (n9 : Nat) (ee : Int) (μ : va_M) (H : Heap) (locs : List Loc) (ls : Array Slot), (k0 ≤ ee ∧ ee ≤ m9) → (fr (PT 52) μ0 μ) → (μ 719 52 = c0 + (rO w ee.toNat - rO w k0.toNat)) → (∀ u8 : va_M, agr μ u8 52 0 (μ 719 52).toNat → RA u8 52 (rdrop ee.toNat w) (μ 719 52).toNat → RA u8 52 fin 0) → (m9 - ee).toNat < n9 → va_P (dC, dI) vwCl (fw (mE cI cZ cII cIII h0) h0 6325 μ) H → va_S (fA h0 6325 s.heap.size) s.heap H locs → lv_has ls 8 [(7, .int (iZ (ee))), (0, .ref h0), (1, .int (iZ (t))), (2, .int (iZ (m9)))] → W p l e R s m args below meth c H locs cells slots Q (F0 m 123 ls []) := by
  intro n9
  induction n9 with
  | zero => intro ee μ H locs ls hk hfr hN5 hc hm9 hP hS hl; exact absurd hm9 (Nat.not_lt_zero _)
  | succ n9 ih =>
    intro ee μ H locs ls hk hfr hN5 hc hm9 hP hS hl
    refine lv_iload hx hb dX10_takesIn_123 (lv_at hl 0 rfl) ?_
    refine lv_iload_n hx hb dX10_takesIn_125 rfl (lv_at hl 3 rfl) ?_
    refine fz_icmp_ge (tgt := 151) (by constructor <;> omega) (by constructor <;> omega) hx hb dX10_takesIn_126 (by decide) (fun c126_ => ?_) (fun c126_ => ?_)
    · exact hexit151 (ee) μ H locs ls (by exact hfr) (by
                    have h9 := (rO_end w).1
                    rw [show ee.toNat = rI w by omega, h9] at hN5
                    exact hN5) (by
                    have h9 := (rO_end w).2
                    rw [show ee.toNat = rI w by omega, h9] at hc
                    exact hc μ (fun _ _ _ => ⟨rfl, rfl, rfl⟩) trivial) hP hS (lv_sub hl [1, 2] rfl)
    · have hIx := rdrop_I (ee.toNat) w
      have hNx := rdrop_N (ee.toNat) w
      have hHx := rdrop_H (ee.toNat) w
      have hFx := rdrop_WF (ee.toNat) w hwf
      have hRx := RA_drop (ee.toNat) w 0 hR
      obtain ⟨zx, kx, vx, lx, wx, hex⟩ := rI_pos (w := rdrop (ee.toNat) w) (by omega)
      rw [hex] at hIx hNx hHx hFx hRx
      rw [rN_in] at hNx; rw [rI_in] at hIx; rw [rH_in] at hHx
      obtain ⟨rx1, rx2, rx3, rx4, rx5⟩ := hRx
      rw [Nat.zero_add] at rx1 rx2 rx3 rx4
      have fxA : iWF kx vx lx := ⟨hFx.1, hFx.2.1, hFx.2.2.1, hFx.2.2.2.1, hFx.2.2.2.2.1, hFx.2.2.2.2.2.1, hFx.2.2.2.2.2.2.1⟩
      have hrS := rO_S _ _ _ _ _ _ _ hex
      have hmo := rO_mono k0.toNat ee.toNat w (by omega)
      have hcell : ∀ x, μ (507 + t.toNat) x = μ0 (507 + t.toNat) x ∧ μ (578 + t.toNat) x = μ0 (578 + t.toNat) x ∧ μ (649 + t.toNat) x = μ0 (649 + t.toNat) x := fun x => ⟨hfr _ _ (by unfold PT; omega), hfr _ _ (by unfold PT; omega), hfr _ _ (by unfold PT; omega)⟩
      have hRx : RA μ t.toNat (Std.DTreeMap.Internal.Impl.inner zx kx vx lx wx) (rO w ee.toNat) := RA_kept ⟨rx1, rx2, rx3, rx4, by rw [Nat.zero_add] at rx5; exact rx5⟩ (fun x _ _ => hcell x)
      refine lv_aload_n hx hb dX10_takesIn_129 rfl (lv_at hl 1 rfl) ?_
      refine lv_iload_n hx hb dX10_takesIn_130 rfl (lv_at hl 2 rfl) ?_
      refine lv_aload_n hx hb dX10_takesIn_131 rfl (lv_at hl 1 rfl) ?_
      refine fz_get (D := (dC, dI)) (ci := 10) (v := .ref (h0 + 722)) (C := RX10) (T := TX10) (N := 53) hx hb hts inG10 hown hK hP (k := 0) (by decide) (F := mF h0) mE_obj rfl 29 (by decide) (hts _ k1195) (fun _ h9 => h9) rfl dX10_takesIn_132 ?_
      refine lv_iconst (v := iZ 0) hx hb dX10_takesIn_135 rfl ?_
      refine fz_ald (k := 722) (n := 14) (k2 := (723 + 0)) hx hb hK hP 2 rfl (by decide) mE_rowS rfl ⟨by omega, by omega⟩ (by decide) (if_pos (by omega)) dX10_takesIn_136 ?_
      refine lv_iload hx hb dX10_takesIn_137 (lv_at hl 0 rfl) ?_
      refine fz_ld (k := (723 + 0)) (n := 260) hx hb hK hP 0 (by omega) (mE_rowSR (by omega)) rfl ⟨by omega, by omega⟩ (by decide) dX10_takesIn_139 ?_
      rw [show μ (723 + 0) (ee).toNat = (rO w ee.toNat : Int) from (by rw [hfr _ _ (by unfold PT; omega), hrow _ (by omega)]; omega)]
      refine lv_bipush (v := iZ 52) hx hb dX10_takesIn_140 rfl ?_
      refine va_callv (va_runV (As := [.int (iZ (t)), .int (iZ ((rO w ee.toNat : Int))), .int (iZ (52))]) (rest := []) ⟨hx, hb, hml, hown, hts⟩ (m_copies l dC dI cI cZ cII cIII h0 H.size μ (t) ((rO w ee.toNat : Int)) (52) (1 + (rN lx : Int)) (by first | assumption | omega | exact ⟨by omega, by omega⟩) (by decide) (by omega) (by intro _; omega) (by intro _; show 0 ≤ μ 719 52 ∧ μ 719 52 + _ ≤ 900; omega) (by intro _; exact hRx.2.2.1)) (cwV 3 hts (gV_G k1412 k1414 ks_yX10_copies k13 k1415) rfl rfl rfl (by decide +kernel) ⟨by show 2 + 1 ≤ _; omega, by show 8 + (6 + 11) + (38) ≤ _; omega⟩) ⟨fun a U g mk q => by obtain ⟨q0, q1, qP, qK⟩ := q; exact ⟨q0, q1, qP, va_K.moved (u := U) (U := U.calling g mk a) (Vm.Alike.refl U.vm) qK⟩, va_recv hK hP (ci := 10) (q0 := 0) rfl ((fw_get (by decide)).trans (by rw [mE_obj]; rfl)), fun U hU hW => ⟨rfl, by rw [hU], by rw [hU]; exact hP, va_K.moved hW.alike hK⟩⟩ rfl rfl hl.1 rfl (lv_room (Nat.le_of_ble_eq_true rfl)) dX10_takesIn_142 ⟨hRc, hRs⟩) hS (fun q _ h => fA_le hS.1 q h) (fA_le hS.1) (fun u9 t9 H1 locs ht9 hvm9 hw9 hB9 hz9 hk9 hS => ?_)
      obtain ⟨hP, -⟩ := hB9
      rw [ht9] at hP
      generalize H1 = H at hP hS ⊢
      obtain ⟨μx, eμx⟩ : ∃ x : va_M, x = u9 := ⟨_, rfl⟩
      rw [← eμx] at hP hw9
      have hμx := hw9; clear hw9
      obtain ⟨c1, c2, c3⟩ := hμx.2 (by decide)
      have e52 : (52 : Int).toNat = 52 := rfl
      rw [e52] at c1 c2 c3
      have c3 : cpy μ μx t.toNat (rO w ee.toNat) 52 (μ 719 52).toNat (1 + rN lx) := by have h9 := c3; rw [show (rO w ee.toNat : Int).toNat = rO w ee.toNat from rfl, show (1 + (rN lx : Int)).toNat = 1 + rN lx by omega] at h9; exact h9
      have hdS : rdrop (ee.toNat + 1) w = wx := rdrop_S hex
      refine lv_iinc (v := iZ (ee + 1)) (lv' := [(7, .int (iZ (ee + 1))), (0, .ref h0), (1, .int (iZ (t))), (2, .int (iZ (m9)))]) hx hb dX10_takesIn_145 hl (k := 0) rfl (iZ_add _ _) (by decide) rfl (fun ls hl => ?_)
      refine lv_goto (tgt := 123) hx hb dX10_takesIn_148 (by decide) ?_
      exact ih (ee + 1) μx H locs ls (by omega) (by exact fr_trans hfr (fr_mono c1 (fun _ _ h => PG_PT h))) (by rw [show (ee + 1).toNat = ee.toNat + 1 by omega, hrS]; omega) (by
                    rw [show (ee + 1).toNat = ee.toNat + 1 by omega, hdS, show (μx 719 52).toNat = (μ 719 52).toNat + 1 + rN lx by omega]
                    intro u8 ha8 hx8
                    refine hc u8 (fun y hy1 hy2 => ?_) ?_
                    · have h7 := ha8 y hy1 (by omega)
                      rw [h7.1, h7.2.1, h7.2.2]
                      exact ⟨c1 _ _ (by unfold PG; omega), c1 _ _ (by unfold PG; omega), c1 _ _ (by unfold PG; omega)⟩
                    · rw [hex]
                      exact cpy_RA hRx c3 (fun y hy1 hy2 => ha8 y (by omega) (by omega)) hx8) (by omega) hP hS (lv_sub hl [0, 1, 2, 3] rfl)
set_option maxHeartbeats 40000000 in
set_option maxRecDepth 100000 in
theorem m_takesIn0 (l : Launch) (dC : Nat → ClassId) (dI : Nat → Nat → Nat) (cI cZ cII cIII : ClassId) (h0 sz : Nat) (μ : va_M) (t : Int) (m9 : Int) (w : Rw) (k : Int) (so : Int) (f9 : Int) (za : Nat) (va : Int) (la : Rw) (ra : Rw) (ht : 0 ≤ t ∧ t < 70) (hR : RA μ t.toNat w 0) (hN : rN w ≤ 900) (hwf : rWF w) (hHH : rH w ≤ 20) (hrow : rowIs μ 723 w 0) (h260 : rI w ≤ 260) (ht3 : t ≠ 50 ∧ t ≠ 51 ∧ t ≠ 52) (hm9 : m9 = rI w) (hk : 0 ≤ k ∧ 0 ≤ f9) (hso9 : so = rI la) (hf : f9 = k + 1) (hit : rdrop k.toNat w = Std.DTreeMap.Internal.Impl.inner za 4 va la ra ∧ nxt la (rdrop f9.toNat w)) : Met l yX10_takesIn (Cond.code yX10_takesIn cX10_takesIn 8 (some .boolean) :: wsG) ({ frames := 25, cells := 0, slots := 0, locals := 770 } : Room) (va_Pc [.ref h0, .int (iZ (t)), .int (iZ (m9)), .int (iZ (k)), .int (iZ (0))] (fun U => U.heap.size = sz ∧ va_P (dC, dI) vwCl (fw (mE cI cZ cII cIII h0) h0 6325 μ) U.heap ∧ va_K (dC, dI) vwCl (mT cI cZ cII cIII) U)) (va_Qi (fun (r9 : Int32) (u : va_M × Int) => r9 = iZ u.2 ∧ (fun (u : va_M) (r : Int) => r = 1 ∧ TR u t.toNat (rtk w k.toNat (rfus la (rdrop f9.toNat w)) (k.toNat + 1 + rI la)) ∧ fr (PK t.toNat) μ u) u.1 u.2) (fun u t => va_P (dC, dI) vwCl (fw (mE cI cZ cII cIII h0) h0 6325 u.1) t.heap ∧ va_K (dC, dI) vwCl (mT cI cZ cII cIII) t) (fA h0 6325 sz)) 0 0 (fA h0 6325 sz) := by
  refine Met.ofW (cc := cX10_takesIn) (maxL := 8) (ret := (some .boolean)) (by decide) rfl ?_
  intro p e s m args below meth c s₁ B hml hv
  obtain ⟨rfl, hsz, hP, hK⟩ := hv
  have hx := B.exec
  have hb := B.bytes
  have hr := B.returns
  have hts : ∀ w ∈ wsG, w.before _ s = true := hG_of (atoms_spec (ws := (Cond.code yX10_takesIn cX10_takesIn 8 (some .boolean) :: wsG)) B.pre)
  have hown : s.vm.findClass RX10 = some m.cls := findClass_of_methodNamed B.named
  have hlocks := B.notSynchronized
  subst hsz
  have hS : va_S (fA h0 6325 s.heap.size) s.heap s.heap [] := va_S.rf
  have hl := lv_entry ([.ref h0, .int (iZ (t)), .int (iZ (m9)), .int (iZ (k)), .int (iZ (0))]) (n := 8) (Nat.le_of_ble_eq_true rfl)
  rw [lg_entry_eq]
  generalize (lg_sl ([.ref h0, .int (iZ (t)), .int (iZ (m9)), .int (iZ (k)), .int (iZ (0))]) ++ List.replicate (8 - (lg_sl ([.ref h0, .int (iZ (t)), .int (iZ (m9)), .int (iZ (k)), .int (iZ (0))])).length) Slot.unset).toArray = ls at hl ⊢
  have hl : lv_has ls 8 [(0, .ref h0), (1, .int (iZ (t))), (2, .int (iZ (m9))), (3, .int (iZ (k))), (4, .int (iZ (0)))] := hl
  obtain ⟨e1_, hnx⟩ := hit
  have hIa := rdrop_I k.toNat w
  have hNa := rdrop_N k.toNat w
  have hHa := rdrop_H k.toNat w
  have hWa := rdrop_WF k.toNat w hwf
  have hRa := RA_drop k.toNat w 0 hR
  rw [e1_] at hIa hNa hHa hWa hRa
  rw [rN_in] at hNa; rw [rI_in] at hIa; rw [rH_in] at hHa
  have hSa := rO_S _ _ _ _ _ _ _ e1_
  rw [Nat.zero_add] at hRa
  obtain ⟨a1, a2, a3, a4, _⟩ := hRa
  have hnI := nxt_I _ _ hnx
  rw [rdrop_I] at hnI
  have hfN := nx_N hWa.2.2.2.2.2.2.1 (rdrop_WF f9.toNat w hwf) hnx
  have hmx := rO_mono (k.toNat + 1 + rI la) (rI w) w (by omega)
  rw [(rO_end w).1] at hmx
  have hmy := rO_mono (k.toNat + 1) (k.toNat + 1 + rI la) w (by omega)
  have hIl := rI_N2 la
  refine lv_aload_n hx hb dX10_takesIn_0 rfl (lv_at hl 0 rfl) ?_
  refine lv_iload_n hx hb dX10_takesIn_1 rfl (lv_at hl 1 rfl) ?_
  refine lv_aload_n hx hb dX10_takesIn_2 rfl (lv_at hl 0 rfl) ?_
  refine fz_get (D := (dC, dI)) (ci := 10) (v := .ref (h0 + 722)) (C := RX10) (T := TX10) (N := 53) hx hb hts inG10 hown hK hP (k := 0) (by decide) (F := mF h0) mE_obj rfl 29 (by decide) (hts _ k1195) (fun _ h9 => h9) rfl dX10_takesIn_3 ?_
  refine lv_iconst (v := iZ 0) hx hb dX10_takesIn_6 rfl ?_
  refine fz_ald (k := 722) (n := 14) (k2 := (723 + 0)) hx hb hK hP 2 rfl (by decide) mE_rowS rfl ⟨by omega, by omega⟩ (by decide) (if_pos (by omega)) dX10_takesIn_7 ?_
  refine lv_iload_n hx hb dX10_takesIn_8 rfl (lv_at hl 3 rfl) ?_
  refine fz_ld (k := (723 + 0)) (n := 260) hx hb hK hP 0 (by omega) (mE_rowSR (by omega)) rfl ⟨by omega, by omega⟩ (by decide) dX10_takesIn_9 ?_
  rw [show μ (723 + 0) (k).toNat = (rO w k.toNat : Int) from (by rw [hrow _ (by omega)]; omega)]
  refine va_calli (va_runV (As := [.int (iZ (t)), .int (iZ ((rO w k.toNat : Int)))]) (rest := []) ⟨hx, hb, hml, hown, hts⟩ (m_itemsIn l dC dI cI cZ cII cIII h0 s.heap.size μ (t) ((rO w k.toNat : Int)) (la) (by first | assumption | omega | exact ⟨by omega, by omega⟩) (by omega) (by exact a3) (by exact a4)) (cwV 2 hts (gV_G k1400 k1402 ks_yX10_itemsIn k13 k1403) rfl rfl rfl (by decide +kernel) ⟨Nat.le_of_ble_eq_true rfl, Nat.le_of_ble_eq_true rfl⟩) ⟨fun a U g mk q => by obtain ⟨q0, q1, qP, qK⟩ := q; exact ⟨q0, q1, qP, va_K.moved (u := U) (U := U.calling g mk a) (Vm.Alike.refl U.vm) qK⟩, va_recv hK hP (ci := 10) (q0 := 0) rfl ((fw_get (by decide)).trans (by rw [mE_obj]; rfl)), fun U hU hW => ⟨rfl, by rw [hU], by rw [hU]; exact hP, va_K.moved hW.alike hK⟩⟩ rfl rfl hl.1 rfl (lv_room (Nat.le_of_ble_eq_true rfl)) dX10_takesIn_10 ⟨Nat.le_of_ble_eq_true rfl, Nat.le_of_ble_eq_true rfl⟩) hS (fun q _ h => fA_le hS.1 q h) (fA_le hS.1) (fun r9 u9 t9 H1 locs ht9 hvm9 hw9 hB9 hz9 hk9 hS => ?_)
  obtain ⟨μ1, r1_⟩ := u9
  obtain ⟨hP, -⟩ := hB9
  rw [ht9] at hP
  generalize H1 = H at hP hS ⊢
  obtain ⟨e9, hw9⟩ := hw9
  have e9 : r9 = iZ r1_ := e9
  subst e9
  simp only at hP hw9
  have hμ1 := hw9; clear hw9
  rw [hμ1.1] at hP; have hμ1 := hμ1.2
  have hso : r1_ = rI la := hμ1
  obtain rfl : so = r1_ := by omega
  refine lv_istore (lv' := [(5, .int (iZ (so))), (0, .ref h0), (1, .int (iZ (t))), (2, .int (iZ (m9))), (3, .int (iZ (k))), (4, .int (iZ (0)))]) hx hb dX10_takesIn_13 hl (by decide) rfl (fun ls hl => ?_)
  refine lv_iload hx hb dX10_takesIn_15 (lv_at hl 5 rfl) ?_
  refine fz_if_eq (tgt := 27) (by decide) hx hb dX10_takesIn_17 (by decide) (fun c17_ => ?_) (fun h9 => absurd h9 (by decide))
  refine lv_iload_n hx hb dX10_takesIn_27 rfl (lv_at hl 4 rfl) ?_
  refine lv_iconst (v := iZ 1) hx hb dX10_takesIn_28 rfl ?_
  refine lv_iadd hx hb dX10_takesIn_29 ?_
  refine lv_topi (fun x9 ex9 => ?_)
  obtain rfl : x9 = iZ (k + 1) := ex9.trans (iZ_add _ _)
  rw [show k + 1 = f9 from (by omega)]
  refine lv_istore (lv' := [(6, .int (iZ (f9))), (5, .int (iZ (so))), (0, .ref h0), (1, .int (iZ (t))), (2, .int (iZ (m9))), (3, .int (iZ (k))), (4, .int (iZ (0)))]) hx hb dX10_takesIn_30 hl (by decide) rfl (fun ls hl => ?_)
  refine lv_aload_n hx hb dX10_takesIn_32 rfl (lv_at hl 2 rfl) ?_
  refine lv_bipush (v := iZ 52) hx hb dX10_takesIn_33 rfl ?_
  refine va_callv (va_runV (As := [.int (iZ (52))]) (rest := []) ⟨hx, hb, hml, hown, hts⟩ (m_empties l dC dI cI cZ cII cIII h0 H.size μ (52) (by first | assumption | omega | exact ⟨by omega, by omega⟩)) (cwV 1 hts (gV_G k1373 k1375 ks_yX10_empties k13 k1376) rfl rfl rfl (by decide +kernel) ⟨Nat.le_of_ble_eq_true rfl, Nat.le_of_ble_eq_true rfl⟩) ⟨fun a U g mk q => by obtain ⟨q0, q1, qP, qK⟩ := q; exact ⟨q0, q1, qP, va_K.moved (u := U) (U := U.calling g mk a) (Vm.Alike.refl U.vm) qK⟩, va_recv hK hP (ci := 10) (q0 := 0) rfl ((fw_get (by decide)).trans (by rw [mE_obj]; rfl)), fun U hU hW => ⟨rfl, by rw [hU], by rw [hU]; exact hP, va_K.moved hW.alike hK⟩⟩ rfl rfl hl.1 rfl (lv_room (Nat.le_of_ble_eq_true rfl)) dX10_takesIn_35 ⟨Nat.le_of_ble_eq_true rfl, Nat.le_of_ble_eq_true rfl⟩) hS (fun q _ h => fA_le hS.1 q h) (fA_le hS.1) (fun u9 t9 H1 locs ht9 hvm9 hw9 hB9 hz9 hk9 hS => ?_)
  obtain ⟨hP, -⟩ := hB9
  rw [ht9] at hP
  generalize H1 = H at hP hS ⊢
  obtain ⟨μa, eμa⟩ : ∃ x : va_M, x = u9 := ⟨_, rfl⟩
  rw [← eμa] at hP hw9
  have hμa := hw9; clear hw9
  rw [show (52 : Int).toNat = 52 from rfl] at hμa
  have fa : fr (PT 52) μ μa := by rw [hμa]; exact fr_uz fr_rfl (by unfold PT; omega)
  have h52 : μa 719 52 = 0 := by rw [hμa, uz_s]
  have hcfa : ∀ x, μa (507 + t.toNat) x = μ (507 + t.toNat) x ∧ μa (578 + t.toNat) x = μ (578 + t.toNat) x ∧ μa (649 + t.toNat) x = μ (649 + t.toNat) x := fun x => ⟨fa _ x (by unfold PT; omega), fa _ x (by unfold PT; omega), fa _ x (by unfold PT; omega)⟩
  have h00 : rO w 0 = 0 := by cases w <;> rfl
  refine lv_iconst (v := iZ 0) hx hb dX10_takesIn_38 rfl ?_
  refine lv_istore (lv' := [(7, .int (iZ (0))), (6, .int (iZ (f9))), (5, .int (iZ (so))), (0, .ref h0), (1, .int (iZ (t))), (2, .int (iZ (m9))), (3, .int (iZ (k))), (4, .int (iZ (0)))]) hx hb dX10_takesIn_39 hl (by decide) rfl (fun ls hl => ?_)
  refine LX10_takesIn_41a0 hx hb hml hown hts hK (Nat.le_of_ble_eq_true rfl) (Nat.le_of_ble_eq_true rfl) (Nat.le_of_ble_eq_true rfl) (Nat.le_of_ble_eq_true rfl) (μa) (t) (m9) (w) (k) (so) (f9) (by assumption) (by exact RA_kept hR (fun x _ _ => hcfa x)) (by assumption) (by assumption) (by assumption) (by exact fun m hm => by rw [fa _ _ (by unfold PT; omega)]; exact hrow m hm) (by assumption) (by assumption) (by assumption) (by omega) ?_ _ (0) μa H locs ls (by omega) (by exact fr_rfl) (by rw [h52]; show (0 : Int) = (rO w 0 : Int); rw [h00]; rfl) (by
            intro u8 x _ hx8
            have hx8 : RA u8 52 x (rO w 0) := hx8
            rw [h00] at hx8
            exact hx8) (Nat.lt_succ_self _) hP hS (lv_sub hl [0, 1, 2, 7, 6, 5, 4, 3] rfl)
  · intro ee_2 μ2_ H locs ls q1_2 q2_2 q3_2 hP hS hl
    have hl : lv_has ls 8 [(6, .int (iZ (f9))), (5, .int (iZ (so))), (4, .int (iZ (0))), (3, .int (iZ (k))), (2, .int (iZ (m9))), (1, .int (iZ (t))), (0, .ref h0)] := hl
    have G1_ := q1_2
    have G2_ := q2_2
    have G3_ := q3_2
    have fp : fr (PT 52) μ μ2_ := fr_trans fa G1_
    have hcfp : ∀ x, μ2_ (507 + t.toNat) x = μ (507 + t.toNat) x ∧ μ2_ (578 + t.toNat) x = μ (578 + t.toNat) x ∧ μ2_ (649 + t.toNat) x = μ (649 + t.toNat) x := fun x => ⟨fp _ x (by unfold PT; omega), fp _ x (by unfold PT; omega), fp _ x (by unfold PT; omega)⟩
    have eN : (μ2_ 719 52).toNat = rO w k.toNat := by omega
    have hrowp : rowIs μ2_ 723 w 0 := fun m hm => by rw [fp _ _ (by unfold PT; omega)]; exact hrow m hm
    have hRp : RA μ2_ t.toNat w 0 := RA_kept hR (fun x _ _ => hcfp x)
    refine lv_aload_n hx hb dX10_takesIn_79 rfl (lv_at hl 6 rfl) ?_
    refine lv_iload_n hx hb dX10_takesIn_80 rfl (lv_at hl 5 rfl) ?_
    refine lv_aload_n hx hb dX10_takesIn_81 rfl (lv_at hl 6 rfl) ?_
    refine fz_get (D := (dC, dI)) (ci := 10) (v := .ref (h0 + 722)) (C := RX10) (T := TX10) (N := 53) hx hb hts inG10 hown hK hP (k := 0) (by decide) (F := mF h0) mE_obj rfl 29 (by decide) (hts _ k1195) (fun _ h9 => h9) rfl dX10_takesIn_82 ?_
    refine lv_iconst (v := iZ 0) hx hb dX10_takesIn_85 rfl ?_
    refine fz_ald (k := 722) (n := 14) (k2 := (723 + 0)) hx hb hK hP 2 rfl (by decide) mE_rowS rfl ⟨by omega, by omega⟩ (by decide) (if_pos (by omega)) dX10_takesIn_86 ?_
    refine lv_iload_n hx hb dX10_takesIn_87 rfl (lv_at hl 3 rfl) ?_
    refine fz_ld (k := (723 + 0)) (n := 260) hx hb hK hP 0 (by omega) (mE_rowSR (by omega)) rfl ⟨by omega, by omega⟩ (by decide) dX10_takesIn_88 ?_
    rw [show μ2_ (723 + 0) (k).toNat = (rO w k.toNat : Int) from (by rw [fp _ _ (by unfold PT; omega), hrow _ (by omega)]; omega)]
    refine lv_iload_n hx hb dX10_takesIn_89 rfl (lv_at hl 5 rfl) ?_
    refine lv_aload_n hx hb dX10_takesIn_90 rfl (lv_at hl 6 rfl) ?_
    refine fz_get (D := (dC, dI)) (ci := 10) (v := .ref (h0 + 722)) (C := RX10) (T := TX10) (N := 53) hx hb hts inG10 hown hK hP (k := 0) (by decide) (F := mF h0) mE_obj rfl 29 (by decide) (hts _ k1195) (fun _ h9 => h9) rfl dX10_takesIn_91 ?_
    refine lv_iconst (v := iZ 0) hx hb dX10_takesIn_94 rfl ?_
    refine fz_ald (k := 722) (n := 14) (k2 := (723 + 0)) hx hb hK hP 2 rfl (by decide) mE_rowS rfl ⟨by omega, by omega⟩ (by decide) (if_pos (by omega)) dX10_takesIn_95 ?_
    refine lv_iload hx hb dX10_takesIn_96 (lv_at hl 0 rfl) ?_
    refine lv_bipush (v := iZ 52) hx hb dX10_takesIn_98 rfl ?_
    refine va_calli (va_runV (As := [.int (iZ (t)), .int (iZ ((rO w k.toNat : Int))), .int (iZ (t)), .ref (h0 + (723 + 0)), .int (iZ (f9)), .int (iZ (52))]) (rest := []) ⟨hx, hb, hml, hown, hts⟩ (m_fusesRow l dC dI cI cZ cII cIII h0 H.size μ2_ (t) ((rO w k.toNat : Int)) (t) (723) (f9) (52) (4) (va) (la) (w) (0) (by first | assumption | omega | exact ⟨by omega, by omega⟩) (by first | assumption | omega | exact ⟨by omega, by omega⟩) (by omega) (by exact ⟨by rw [(hcfp _).1]; exact a1, by rw [(hcfp _).2.1]; exact a2, by rw [(hcfp _).2.2]; exact a3, RA_kept a4 (fun x _ _ => hcfp x)⟩) (by exact ⟨hWa.1, hWa.2.1, hWa.2.2.1, hWa.2.2.2.1, hWa.2.2.2.2.1, hWa.2.2.2.2.2.1, hWa.2.2.2.2.2.2.1⟩) (by exact Or.inl ⟨by omega, by omega⟩) (by exact hrowp) (by exact hRp) (by omega) (by exact hwf) (by exact h260) (by omega) (by omega) (by omega) (by exact hnx) (by intro _; show 0 ≤ μ2_ 719 52 ∧ μ2_ 719 52 + 1 + _ ≤ 900; omega)) (cwV 6 hts (gV_G k1468 k1470 ks_yX10_fusesRow k13 k1471) rfl rfl rfl (by decide +kernel) ⟨Nat.le_of_ble_eq_true rfl, Nat.le_of_ble_eq_true rfl⟩) ⟨fun a U g mk q => by obtain ⟨q0, q1, qP, qK⟩ := q; exact ⟨q0, q1, qP, va_K.moved (u := U) (U := U.calling g mk a) (Vm.Alike.refl U.vm) qK⟩, va_recv hK hP (ci := 10) (q0 := 0) rfl ((fw_get (by decide)).trans (by rw [mE_obj]; rfl)), fun U hU hW => ⟨rfl, by rw [hU], by rw [hU]; exact hP, va_K.moved hW.alike hK⟩⟩ rfl rfl hl.1 rfl (lv_room (Nat.le_of_ble_eq_true rfl)) dX10_takesIn_100 ⟨Nat.le_of_ble_eq_true rfl, Nat.le_of_ble_eq_true rfl⟩) hS (fun q _ h => fA_le hS.1 q h) (fA_le hS.1) (fun r9 u9 t9 H1 locs ht9 hvm9 hw9 hB9 hz9 hk9 hS => ?_)
    obtain ⟨μb, r3⟩ := u9
    obtain ⟨hP, -⟩ := hB9
    rw [ht9] at hP
    generalize H1 = H at hP hS ⊢
    obtain ⟨e9, hw9⟩ := hw9
    have e9 : r9 = iZ r3 := e9
    subst e9
    simp only at hP hw9
    have hμb := hw9; clear hw9
    obtain ⟨c1, c2, c3⟩ := hμb.2.1 (by decide)
    rw [show (52 : Int).toNat = 52 from rfl] at c1 c2 c3
    rw [eN] at c1 c3
    have hZ : ((k + 1) + so).toNat = k.toNat + 1 + rI la := by omega
    have fb : fr (PT 52) μ μb := fr_trans fp (fr_mono c1 (fun _ _ h => PG_PT h))
    have hcfb : ∀ x, μb (507 + t.toNat) x = μ (507 + t.toNat) x ∧ μb (578 + t.toNat) x = μ (578 + t.toNat) x ∧ μb (649 + t.toNat) x = μ (649 + t.toNat) x := fun x => ⟨fb _ x (by unfold PT; omega), fb _ x (by unfold PT; omega), fb _ x (by unfold PT; omega)⟩
    refine lv_pop hx hb dX10_takesIn_103 rfl ?_
    refine lv_iload hx hb dX10_takesIn_104 (lv_at hl 2 rfl) ?_
    refine fz_if_eq (tgt := 115) (by decide) hx hb dX10_takesIn_106 (by decide) (fun c106_ => ?_) (fun h9 => absurd h9 (by decide))
    refine lv_iload_n hx hb dX10_takesIn_115 rfl (lv_at hl 3 rfl) ?_
    refine lv_iconst (v := iZ 1) hx hb dX10_takesIn_116 rfl ?_
    refine lv_iadd hx hb dX10_takesIn_117 ?_
    refine lv_topi (fun x9 ex9 => ?_)
    obtain rfl : x9 = iZ (k + 1) := ex9.trans (iZ_add _ _)
    refine lv_iload hx hb dX10_takesIn_118 (lv_at hl 1 rfl) ?_
    refine lv_iadd hx hb dX10_takesIn_120 ?_
    refine lv_topi (fun x9 ex9 => ?_)
    obtain rfl : x9 = iZ ((k + 1) + so) := ex9.trans (iZ_add _ _)
    refine lv_istore (lv' := [(7, .int (iZ ((k + 1) + so))), (6, .int (iZ (f9))), (5, .int (iZ (so))), (4, .int (iZ (0))), (3, .int (iZ (k))), (2, .int (iZ (m9))), (1, .int (iZ (t))), (0, .ref h0)]) hx hb dX10_takesIn_121 hl (by decide) rfl (fun ls hl => ?_)
    refine LX10_takesIn_123b0 hx hb hml hown hts hK (Nat.le_of_ble_eq_true rfl) (Nat.le_of_ble_eq_true rfl) (Nat.le_of_ble_eq_true rfl) (Nat.le_of_ble_eq_true rfl) (μb) (t) (m9) (w) ((k + 1) + so) (μb 719 52) ((rtk w k.toNat (rfus la (rdrop f9.toNat w)) (k.toNat + 1 + rI la))) (by assumption) (by exact RA_kept hR (fun x _ _ => hcfb x)) (by assumption) (by assumption) (by assumption) (by exact fun m hm => by rw [fb _ _ (by unfold PT; omega)]; exact hrow m hm) (by assumption) (by assumption) (by assumption) (by
                rw [hZ]
                show 0 ≤ μb 719 52 ∧ μb 719 52 + (rN w - rO w (k.toNat + 1 + rI la)) ≤ 900
                omega) (by omega) ?_ _ ((k + 1) + so) μb H locs ls (by omega) (by exact fr_rfl) (by omega) (by
                rw [hZ]
                intro u8 ha8 hx8
                unfold rtk
                refine G3_ u8 _ (fun y hy1 hy2 => ?_) ?_
                · have h7 := ha8 y hy1 (by omega)
                  rw [h7.1, h7.2.1, h7.2.2]
                  exact ⟨c1 _ _ (by unfold PG; omega), c1 _ _ (by unfold PG; omega), c1 _ _ (by unfold PG; omega)⟩
                · have h7 := ha8 (rO w k.toNat) (by omega) (by omega)
                  refine ⟨h7.1.trans c3.1, h7.2.1.trans c3.2.1, h7.2.2.trans c3.2.2.1, RA_kept c3.2.2.2 (fun y hy1 hy2 => ha8 y (by omega) (by omega)), ?_⟩
                  rw [show rO w k.toNat + 1 + rN (rfus la (rdrop f9.toNat w)) = (μb 719 52).toNat by omega]
                  exact hx8) (Nat.lt_succ_self _) hP hS (lv_sub hl [0, 7, 6, 5] rfl)
    · intro ee_4 μ4_ H locs ls q1_4 q2_4 q3_4 hP hS hl
      have hl : lv_has ls 8 [(0, .ref h0), (1, .int (iZ (t)))] := hl
      have v1_ := q1_4
      have v2_ := q2_4
      have v3_ := q3_4
      have fd : fr (PT 52) μ μ4_ := fr_trans fb v1_
      have hNd := rdrop_N (k.toNat + 1 + rI la) w
      have hNF : rN (rtk w k.toNat (rfus la (rdrop f9.toNat w)) (k.toNat + 1 + rI la)) = rO w k.toNat + (1 + rN (rfus la (rdrop f9.toNat w)) + rN (rdrop (k.toNat + 1 + rI la) w)) := by unfold rtk; rw [rpre_N _ _ _ (by omega), rN_in]
      rw [hZ] at v2_
      refine lv_aload_n hx hb dX10_takesIn_151 rfl (lv_at hl 0 rfl) ?_
      refine lv_bipush (v := iZ 52) hx hb dX10_takesIn_152 rfl ?_
      refine lv_iload_n hx hb dX10_takesIn_154 rfl (lv_at hl 1 rfl) ?_
      refine va_callv (va_runV (As := [.int (iZ (52)), .int (iZ (t))]) (rest := []) ⟨hx, hb, hml, hown, hts⟩ (m_copiesAll l dC dI cI cZ cII cIII h0 H.size μ4_ (52) (t) ((rtk w k.toNat (rfus la (rdrop f9.toNat w)) (k.toNat + 1 + rI la))) (by decide) (by first | assumption | omega | exact ⟨by omega, by omega⟩) (by omega) (by exact ⟨by show μ4_ 719 52 = _; omega, v3_⟩) (by omega)) (cwV 2 hts (gV_G k1424 k1426 ks_yX10_copiesAll k13 k1427) rfl rfl rfl (by decide +kernel) ⟨Nat.le_of_ble_eq_true rfl, Nat.le_of_ble_eq_true rfl⟩) ⟨fun a U g mk q => by obtain ⟨q0, q1, qP, qK⟩ := q; exact ⟨q0, q1, qP, va_K.moved (u := U) (U := U.calling g mk a) (Vm.Alike.refl U.vm) qK⟩, va_recv hK hP (ci := 10) (q0 := 0) rfl ((fw_get (by decide)).trans (by rw [mE_obj]; rfl)), fun U hU hW => ⟨rfl, by rw [hU], by rw [hU]; exact hP, va_K.moved hW.alike hK⟩⟩ rfl rfl hl.1 rfl (lv_room (Nat.le_of_ble_eq_true rfl)) dX10_takesIn_155 ⟨Nat.le_of_ble_eq_true rfl, Nat.le_of_ble_eq_true rfl⟩) hS (fun q _ h => fA_le hS.1 q h) (fA_le hS.1) (fun u9 t9 H1 locs ht9 hvm9 hw9 hB9 hz9 hk9 hS => ?_)
      obtain ⟨hP, -⟩ := hB9
      rw [ht9] at hP
      generalize H1 = H at hP hS ⊢
      obtain ⟨μ5, eμ5⟩ : ∃ x : va_M, x = u9 := ⟨_, rfl⟩
      rw [← eμ5] at hP hw9
      have hμ5 := hw9; clear hw9
      refine lv_iconst (v := iZ 1) hx hb dX10_takesIn_158 rfl ?_
      exact W.zret (v := iZ (1)) hx hb hr (by decide +kernel) (fun t9 ht9 hW9 => ⟨⟨iZ (1), (μ5, 1), rfl, ⟨rfl, (by
                    dsimp only
                    exact ⟨rfl, hμ5.1, fr_trans (fr_mono fd (fun _ _ h => Or.inl h)) (fr_mono hμ5.2 (fun _ _ h => Or.inr h))⟩)⟩, by rw [ht9]; exact hP, va_K.moved hW9.alike hK⟩, hS.F ht9⟩) hS.2.2 dX10_takesIn_159

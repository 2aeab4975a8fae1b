theorem dX10_common_0 : decode cX10_common 0 = .ok (.aload_n 0, 1) := by decide +kernel
theorem dX10_common_1 : decode cX10_common 1 = .ok (.iconst 0, 1) := by decide +kernel
theorem dX10_common_2 : decode cX10_common 2 = .ok (.putfield 127, 3) := by decide +kernel
theorem dX10_common_5 : decode cX10_common 5 = .ok (.aload_n 0, 1) := by decide +kernel
theorem dX10_common_6 : decode cX10_common 6 = .ok (.aload_n 0, 1) := by decide +kernel
theorem dX10_common_7 : decode cX10_common 7 = .ok (.iload_n 1, 1) := by decide +kernel
theorem dX10_common_8 : decode cX10_common 8 = .ok (.invokevirtual 346, 3) := by decide +kernel
theorem dX10_common_11 : decode cX10_common 11 = .ok (.ifCond .eq 11, 3) := by decide +kernel
theorem dX10_common_14 : decode cX10_common 14 = .ok (.aload_n 0, 1) := by decide +kernel
theorem dX10_common_15 : decode cX10_common 15 = .ok (.iload_n 2, 1) := by decide +kernel
theorem dX10_common_16 : decode cX10_common 16 = .ok (.invokevirtual 346, 3) := by decide +kernel
theorem dX10_common_19 : decode cX10_common 19 = .ok (.ifCond .ne 7, 3) := by decide +kernel
theorem dX10_common_22 : decode cX10_common 22 = .ok (.iconst 1, 1) := by decide +kernel
theorem dX10_common_23 : decode cX10_common 23 = .ok (.goto 4, 3) := by decide +kernel
theorem dX10_common_26 : decode cX10_common 26 = .ok (.iconst 0, 1) := by decide +kernel
theorem dX10_common_27 : decode cX10_common 27 = .ok (.iconst 1, 1) := by decide +kernel
theorem dX10_common_28 : decode cX10_common 28 = .ok (.iconst 0, 1) := by decide +kernel
theorem dX10_common_29 : decode cX10_common 29 = .ok (.invokevirtual 177, 3) := by decide +kernel
theorem dX10_common_32 : decode cX10_common 32 = .ok (.ifCond .eq 5, 3) := by decide +kernel
theorem dX10_common_35 : decode cX10_common 35 = .ok (.iconst 0, 1) := by decide +kernel
theorem dX10_common_36 : decode cX10_common 36 = .ok (.ireturn, 1) := by decide +kernel
theorem dX10_common_37 : decode cX10_common 37 = .ok (.aload_n 0, 1) := by decide +kernel
theorem dX10_common_38 : decode cX10_common 38 = .ok (.getfield 73, 3) := by decide +kernel
theorem dX10_common_41 : decode cX10_common 41 = .ok (.iconst 0, 1) := by decide +kernel
theorem dX10_common_42 : decode cX10_common 42 = .ok (.aaload, 1) := by decide +kernel
theorem dX10_common_43 : decode cX10_common 43 = .ok (.astore_n 3, 1) := by decide +kernel
theorem dX10_common_44 : decode cX10_common 44 = .ok (.aload_n 0, 1) := by decide +kernel
theorem dX10_common_45 : decode cX10_common 45 = .ok (.getfield 34, 3) := by decide +kernel
theorem dX10_common_48 : decode cX10_common 48 = .ok (.iload_n 1, 1) := by decide +kernel
theorem dX10_common_49 : decode cX10_common 49 = .ok (.iaload, 1) := by decide +kernel
theorem dX10_common_50 : decode cX10_common 50 = .ok (.istore 4, 2) := by decide +kernel
theorem dX10_common_52 : decode cX10_common 52 = .ok (.iload 4, 2) := by decide +kernel
theorem dX10_common_54 : decode cX10_common 54 = .ok (.ifCond .lt 126, 3) := by decide +kernel
theorem dX10_common_57 : decode cX10_common 57 = .ok (.aload_n 0, 1) := by decide +kernel
theorem dX10_common_58 : decode cX10_common 58 = .ok (.getfield 34, 3) := by decide +kernel
theorem dX10_common_61 : decode cX10_common 61 = .ok (.iload_n 2, 1) := by decide +kernel
theorem dX10_common_62 : decode cX10_common 62 = .ok (.iaload, 1) := by decide +kernel
theorem dX10_common_63 : decode cX10_common 63 = .ok (.istore 5, 2) := by decide +kernel
theorem dX10_common_65 : decode cX10_common 65 = .ok (.iload 5, 2) := by decide +kernel
theorem dX10_common_67 : decode cX10_common 67 = .ok (.ifCond .lt 107, 3) := by decide +kernel
theorem dX10_common_70 : decode cX10_common 70 = .ok (.iload 4, 2) := by decide +kernel
theorem dX10_common_72 : decode cX10_common 72 = .ok (.aload_n 0, 1) := by decide +kernel
theorem dX10_common_73 : decode cX10_common 73 = .ok (.getfield 34, 3) := by decide +kernel
theorem dX10_common_76 : decode cX10_common 76 = .ok (.iload_n 1, 1) := by decide +kernel
theorem dX10_common_77 : decode cX10_common 77 = .ok (.iaload, 1) := by decide +kernel
theorem dX10_common_78 : decode cX10_common 78 = .ok (.if_icmp .eq 14, 3) := by decide +kernel
theorem dX10_common_81 : decode cX10_common 81 = .ok (.iload 5, 2) := by decide +kernel
theorem dX10_common_83 : decode cX10_common 83 = .ok (.aload_n 0, 1) := by decide +kernel
theorem dX10_common_84 : decode cX10_common 84 = .ok (.getfield 34, 3) := by decide +kernel
theorem dX10_common_87 : decode cX10_common 87 = .ok (.iload_n 2, 1) := by decide +kernel
theorem dX10_common_88 : decode cX10_common 88 = .ok (.iaload, 1) := by decide +kernel
theorem dX10_common_89 : decode cX10_common 89 = .ok (.if_icmp .ne 14, 3) := by decide +kernel
theorem dX10_common_92 : decode cX10_common 92 = .ok (.aload_n 3, 1) := by decide +kernel
theorem dX10_common_93 : decode cX10_common 93 = .ok (.iload 4, 2) := by decide +kernel
theorem dX10_common_95 : decode cX10_common 95 = .ok (.aaload, 1) := by decide +kernel
theorem dX10_common_96 : decode cX10_common 96 = .ok (.iload 5, 2) := by decide +kernel
theorem dX10_common_98 : decode cX10_common 98 = .ok (.iconst 0, 1) := by decide +kernel
theorem dX10_common_99 : decode cX10_common 99 = .ok (.iastore, 1) := by decide +kernel
theorem dX10_common_100 : decode cX10_common 100 = .ok (.goto 68, 3) := by decide +kernel
theorem dX10_common_103 : decode cX10_common 103 = .ok (.aload_n 3, 1) := by decide +kernel
theorem dX10_common_104 : decode cX10_common 104 = .ok (.iload 4, 2) := by decide +kernel
theorem dX10_common_106 : decode cX10_common 106 = .ok (.aaload, 1) := by decide +kernel
theorem dX10_common_107 : decode cX10_common 107 = .ok (.iload 5, 2) := by decide +kernel
theorem dX10_common_109 : decode cX10_common 109 = .ok (.aload_n 0, 1) := by decide +kernel
theorem dX10_common_110 : decode cX10_common 110 = .ok (.getfield 31, 3) := by decide +kernel
theorem dX10_common_113 : decode cX10_common 113 = .ok (.iload_n 1, 1) := by decide +kernel
theorem dX10_common_114 : decode cX10_common 114 = .ok (.aaload, 1) := by decide +kernel
theorem dX10_common_115 : decode cX10_common 115 = .ok (.iload 4, 2) := by decide +kernel
theorem dX10_common_117 : decode cX10_common 117 = .ok (.iaload, 1) := by decide +kernel
theorem dX10_common_118 : decode cX10_common 118 = .ok (.aload_n 0, 1) := by decide +kernel
theorem dX10_common_119 : decode cX10_common 119 = .ok (.getfield 31, 3) := by decide +kernel
theorem dX10_common_122 : decode cX10_common 122 = .ok (.iload_n 2, 1) := by decide +kernel
theorem dX10_common_123 : decode cX10_common 123 = .ok (.aaload, 1) := by decide +kernel
theorem dX10_common_124 : decode cX10_common 124 = .ok (.iload 5, 2) := by decide +kernel
theorem dX10_common_126 : decode cX10_common 126 = .ok (.iaload, 1) := by decide +kernel
theorem dX10_common_127 : decode cX10_common 127 = .ok (.if_icmp .ne 19, 3) := by decide +kernel
theorem dX10_common_130 : decode cX10_common 130 = .ok (.iconst 1, 1) := by decide +kernel
theorem dX10_common_131 : decode cX10_common 131 = .ok (.aload_n 3, 1) := by decide +kernel
theorem dX10_common_132 : decode cX10_common 132 = .ok (.iload 4, 2) := by decide +kernel
theorem dX10_common_134 : decode cX10_common 134 = .ok (.iconst 1, 1) := by decide +kernel
theorem dX10_common_135 : decode cX10_common 135 = .ok (.iadd, 1) := by decide +kernel
theorem dX10_common_136 : decode cX10_common 136 = .ok (.aaload, 1) := by decide +kernel
theorem dX10_common_137 : decode cX10_common 137 = .ok (.iload 5, 2) := by decide +kernel
theorem dX10_common_139 : decode cX10_common 139 = .ok (.iconst 1, 1) := by decide +kernel
theorem dX10_common_140 : decode cX10_common 140 = .ok (.iadd, 1) := by decide +kernel
theorem dX10_common_141 : decode cX10_common 141 = .ok (.iaload, 1) := by decide +kernel
theorem dX10_common_142 : decode cX10_common 142 = .ok (.iadd, 1) := by decide +kernel
theorem dX10_common_143 : decode cX10_common 143 = .ok (.goto 24, 3) := by decide +kernel
theorem dX10_common_146 : decode cX10_common 146 = .ok (.aload_n 3, 1) := by decide +kernel
theorem dX10_common_147 : decode cX10_common 147 = .ok (.iload 4, 2) := by decide +kernel
theorem dX10_common_149 : decode cX10_common 149 = .ok (.iconst 1, 1) := by decide +kernel
theorem dX10_common_150 : decode cX10_common 150 = .ok (.iadd, 1) := by decide +kernel
theorem dX10_common_151 : decode cX10_common 151 = .ok (.aaload, 1) := by decide +kernel
theorem dX10_common_152 : decode cX10_common 152 = .ok (.iload 5, 2) := by decide +kernel
theorem dX10_common_154 : decode cX10_common 154 = .ok (.iaload, 1) := by decide +kernel
theorem dX10_common_155 : decode cX10_common 155 = .ok (.aload_n 3, 1) := by decide +kernel
theorem dX10_common_156 : decode cX10_common 156 = .ok (.iload 4, 2) := by decide +kernel
theorem dX10_common_158 : decode cX10_common 158 = .ok (.aaload, 1) := by decide +kernel
theorem dX10_common_159 : decode cX10_common 159 = .ok (.iload 5, 2) := by decide +kernel
theorem dX10_common_161 : decode cX10_common 161 = .ok (.iconst 1, 1) := by decide +kernel
theorem dX10_common_162 : decode cX10_common 162 = .ok (.iadd, 1) := by decide +kernel
theorem dX10_common_163 : decode cX10_common 163 = .ok (.iaload, 1) := by decide +kernel
theorem dX10_common_164 : decode cX10_common 164 = .ok (.invokestatic 343, 3) := by decide +kernel
theorem dX10_common_167 : decode cX10_common 167 = .ok (.iastore, 1) := by decide +kernel
theorem dX10_common_168 : decode cX10_common 168 = .ok (.iinc 5 (-1), 3) := by decide +kernel
theorem dX10_common_171 : decode cX10_common 171 = .ok (.goto (-106), 3) := by decide +kernel
theorem dX10_common_174 : decode cX10_common 174 = .ok (.iinc 4 (-1), 3) := by decide +kernel
theorem dX10_common_177 : decode cX10_common 177 = .ok (.goto (-125), 3) := by decide +kernel
theorem dX10_common_180 : decode cX10_common 180 = .ok (.aload_n 3, 1) := by decide +kernel
theorem dX10_common_181 : decode cX10_common 181 = .ok (.iconst 0, 1) := by decide +kernel
theorem dX10_common_182 : decode cX10_common 182 = .ok (.aaload, 1) := by decide +kernel
theorem dX10_common_183 : decode cX10_common 183 = .ok (.iconst 0, 1) := by decide +kernel
theorem dX10_common_184 : decode cX10_common 184 = .ok (.iaload, 1) := by decide +kernel
theorem dX10_common_185 : decode cX10_common 185 = .ok (.ireturn, 1) := by decide +kernel
theorem dX10_similar_0 : decode cX10_similar 0 = .ok (.aload_n 0, 1) := by decide +kernel
theorem dX10_similar_1 : decode cX10_similar 1 = .ok (.iconst 0, 1) := by decide +kernel
theorem dX10_similar_2 : decode cX10_similar 2 = .ok (.putfield 127, 3) := by decide +kernel
theorem dX10_similar_5 : decode cX10_similar 5 = .ok (.aload_n 0, 1) := by decide +kernel
theorem dX10_similar_6 : decode cX10_similar 6 = .ok (.aload_n 0, 1) := by decide +kernel
theorem dX10_similar_7 : decode cX10_similar 7 = .ok (.iload_n 1, 1) := by decide +kernel
theorem dX10_similar_8 : decode cX10_similar 8 = .ok (.invokevirtual 346, 3) := by decide +kernel
theorem dX10_similar_11 : decode cX10_similar 11 = .ok (.ifCond .eq 11, 3) := by decide +kernel
theorem dX10_similar_14 : decode cX10_similar 14 = .ok (.aload_n 0, 1) := by decide +kernel
theorem dX10_similar_15 : decode cX10_similar 15 = .ok (.iload_n 2, 1) := by decide +kernel
theorem dX10_similar_16 : decode cX10_similar 16 = .ok (.invokevirtual 346, 3) := by decide +kernel
theorem dX10_similar_19 : decode cX10_similar 19 = .ok (.ifCond .ne 7, 3) := by decide +kernel
theorem dX10_similar_22 : decode cX10_similar 22 = .ok (.iconst 1, 1) := by decide +kernel
theorem dX10_similar_23 : decode cX10_similar 23 = .ok (.goto 4, 3) := by decide +kernel
theorem dX10_similar_26 : decode cX10_similar 26 = .ok (.iconst 0, 1) := by decide +kernel
theorem dX10_similar_27 : decode cX10_similar 27 = .ok (.iconst 1, 1) := by decide +kernel
theorem dX10_similar_28 : decode cX10_similar 28 = .ok (.iconst 0, 1) := by decide +kernel
theorem dX10_similar_29 : decode cX10_similar 29 = .ok (.invokevirtual 177, 3) := by decide +kernel
theorem dX10_similar_32 : decode cX10_similar 32 = .ok (.ifCond .eq 5, 3) := by decide +kernel
theorem dX10_similar_35 : decode cX10_similar 35 = .ok (.iconst 0, 1) := by decide +kernel
theorem dX10_similar_36 : decode cX10_similar 36 = .ok (.ireturn, 1) := by decide +kernel
theorem dX10_similar_37 : decode cX10_similar 37 = .ok (.aload_n 0, 1) := by decide +kernel
theorem dX10_similar_38 : decode cX10_similar 38 = .ok (.bipush 17, 2) := by decide +kernel
theorem dX10_similar_40 : decode cX10_similar 40 = .ok (.iload_n 1, 1) := by decide +kernel
theorem dX10_similar_41 : decode cX10_similar 41 = .ok (.iadd, 1) := by decide +kernel
theorem dX10_similar_42 : decode cX10_similar 42 = .ok (.iconst 0, 1) := by decide +kernel
theorem dX10_similar_43 : decode cX10_similar 43 = .ok (.aload_n 0, 1) := by decide +kernel
theorem dX10_similar_44 : decode cX10_similar 44 = .ok (.getfield 54, 3) := by decide +kernel
theorem dX10_similar_47 : decode cX10_similar 47 = .ok (.bipush 17, 2) := by decide +kernel
theorem dX10_similar_49 : decode cX10_similar 49 = .ok (.iload_n 1, 1) := by decide +kernel
theorem dX10_similar_50 : decode cX10_similar 50 = .ok (.iadd, 1) := by decide +kernel
theorem dX10_similar_51 : decode cX10_similar 51 = .ok (.iaload, 1) := by decide +kernel
theorem dX10_similar_52 : decode cX10_similar 52 = .ok (.aload_n 0, 1) := by decide +kernel
theorem dX10_similar_53 : decode cX10_similar 53 = .ok (.getfield 64, 3) := by decide +kernel
theorem dX10_similar_56 : decode cX10_similar 56 = .ok (.iconst 0, 1) := by decide +kernel
theorem dX10_similar_57 : decode cX10_similar 57 = .ok (.aaload, 1) := by decide +kernel
theorem dX10_similar_58 : decode cX10_similar 58 = .ok (.invokevirtual 225, 3) := by decide +kernel
theorem dX10_similar_61 : decode cX10_similar 61 = .ok (.istore_n 3, 1) := by decide +kernel
theorem dX10_similar_62 : decode cX10_similar 62 = .ok (.aload_n 0, 1) := by decide +kernel
theorem dX10_similar_63 : decode cX10_similar 63 = .ok (.bipush 17, 2) := by decide +kernel
theorem dX10_similar_65 : decode cX10_similar 65 = .ok (.iload_n 2, 1) := by decide +kernel
theorem dX10_similar_66 : decode cX10_similar 66 = .ok (.iadd, 1) := by decide +kernel
theorem dX10_similar_67 : decode cX10_similar 67 = .ok (.iconst 0, 1) := by decide +kernel
theorem dX10_similar_68 : decode cX10_similar 68 = .ok (.aload_n 0, 1) := by decide +kernel
theorem dX10_similar_69 : decode cX10_similar 69 = .ok (.getfield 54, 3) := by decide +kernel
theorem dX10_similar_72 : decode cX10_similar 72 = .ok (.bipush 17, 2) := by decide +kernel
theorem dX10_similar_74 : decode cX10_similar 74 = .ok (.iload_n 2, 1) := by decide +kernel
theorem dX10_similar_75 : decode cX10_similar 75 = .ok (.iadd, 1) := by decide +kernel
theorem dX10_similar_76 : decode cX10_similar 76 = .ok (.iaload, 1) := by decide +kernel
theorem dX10_similar_77 : decode cX10_similar 77 = .ok (.aload_n 0, 1) := by decide +kernel
theorem dX10_similar_78 : decode cX10_similar 78 = .ok (.getfield 67, 3) := by decide +kernel
theorem dX10_similar_81 : decode cX10_similar 81 = .ok (.iconst 0, 1) := by decide +kernel
theorem dX10_similar_82 : decode cX10_similar 82 = .ok (.aaload, 1) := by decide +kernel
theorem dX10_similar_83 : decode cX10_similar 83 = .ok (.invokevirtual 225, 3) := by decide +kernel
theorem dX10_similar_86 : decode cX10_similar 86 = .ok (.istore 4, 2) := by decide +kernel
theorem dX10_similar_88 : decode cX10_similar 88 = .ok (.iload_n 3, 1) := by decide +kernel
theorem dX10_similar_89 : decode cX10_similar 89 = .ok (.iload 4, 2) := by decide +kernel
theorem dX10_similar_91 : decode cX10_similar 91 = .ok (.if_icmp .ne 7, 3) := by decide +kernel
theorem dX10_similar_94 : decode cX10_similar 94 = .ok (.iconst 1, 1) := by decide +kernel
theorem dX10_similar_95 : decode cX10_similar 95 = .ok (.goto 4, 3) := by decide +kernel
theorem dX10_similar_98 : decode cX10_similar 98 = .ok (.iconst 0, 1) := by decide +kernel
theorem dX10_similar_99 : decode cX10_similar 99 = .ok (.istore 5, 2) := by decide +kernel
theorem dX10_similar_101 : decode cX10_similar 101 = .ok (.iconst 0, 1) := by decide +kernel
theorem dX10_similar_102 : decode cX10_similar 102 = .ok (.istore 6, 2) := by decide +kernel
theorem dX10_similar_104 : decode cX10_similar 104 = .ok (.iload 6, 2) := by decide +kernel
theorem dX10_similar_106 : decode cX10_similar 106 = .ok (.iload_n 3, 1) := by decide +kernel
theorem dX10_similar_107 : decode cX10_similar 107 = .ok (.if_icmp .ge 46, 3) := by decide +kernel
theorem dX10_similar_110 : decode cX10_similar 110 = .ok (.iload 5, 2) := by decide +kernel
theorem dX10_similar_112 : decode cX10_similar 112 = .ok (.ifCond .eq 41, 3) := by decide +kernel
theorem dX10_similar_115 : decode cX10_similar 115 = .ok (.aload_n 0, 1) := by decide +kernel
theorem dX10_similar_116 : decode cX10_similar 116 = .ok (.bipush 17, 2) := by decide +kernel
theorem dX10_similar_118 : decode cX10_similar 118 = .ok (.iload_n 1, 1) := by decide +kernel
theorem dX10_similar_119 : decode cX10_similar 119 = .ok (.iadd, 1) := by decide +kernel
theorem dX10_similar_120 : decode cX10_similar 120 = .ok (.aload_n 0, 1) := by decide +kernel
theorem dX10_similar_121 : decode cX10_similar 121 = .ok (.getfield 64, 3) := by decide +kernel
theorem dX10_similar_124 : decode cX10_similar 124 = .ok (.iconst 0, 1) := by decide +kernel
theorem dX10_similar_125 : decode cX10_similar 125 = .ok (.aaload, 1) := by decide +kernel
theorem dX10_similar_126 : decode cX10_similar 126 = .ok (.iload 6, 2) := by decide +kernel
theorem dX10_similar_128 : decode cX10_similar 128 = .ok (.iaload, 1) := by decide +kernel
theorem dX10_similar_129 : decode cX10_similar 129 = .ok (.bipush 17, 2) := by decide +kernel
theorem dX10_similar_131 : decode cX10_similar 131 = .ok (.iload_n 2, 1) := by decide +kernel
theorem dX10_similar_132 : decode cX10_similar 132 = .ok (.iadd, 1) := by decide +kernel
theorem dX10_similar_133 : decode cX10_similar 133 = .ok (.aload_n 0, 1) := by decide +kernel
theorem dX10_similar_134 : decode cX10_similar 134 = .ok (.getfield 67, 3) := by decide +kernel
theorem dX10_similar_137 : decode cX10_similar 137 = .ok (.iconst 0, 1) := by decide +kernel
theorem dX10_similar_138 : decode cX10_similar 138 = .ok (.aaload, 1) := by decide +kernel
theorem dX10_similar_139 : decode cX10_similar 139 = .ok (.iload 6, 2) := by decide +kernel
theorem dX10_similar_141 : decode cX10_similar 141 = .ok (.iaload, 1) := by decide +kernel
theorem dX10_similar_142 : decode cX10_similar 142 = .ok (.invokevirtual 211, 3) := by decide +kernel
theorem dX10_similar_145 : decode cX10_similar 145 = .ok (.istore 5, 2) := by decide +kernel
theorem dX10_similar_147 : decode cX10_similar 147 = .ok (.iinc 6 1, 3) := by decide +kernel
theorem dX10_similar_150 : decode cX10_similar 150 = .ok (.goto (-46), 3) := by decide +kernel
theorem dX10_similar_153 : decode cX10_similar 153 = .ok (.iload 5, 2) := by decide +kernel
theorem dX10_similar_155 : decode cX10_similar 155 = .ok (.ireturn, 1) := by decide +kernel
theorem rO_lt {w : Rw} {k : Nat} (h : k < rI w) : rO w k < rN w := by
  have h1 := rdrop_N k w
  have h2 := rdrop_I k w
  have h3 := rI_N2 (rdrop k w)
  omega
set_option maxHeartbeats 4000000 in
set_option maxRecDepth 100000 in
theorem LX10_common_65 {p : Program} {l : Launch} {e : Env} {R : Room} {s : State} {m : MethodId} {args : Array Value} {below : List Frame} {meth : Method} {c : Code} {cells slots : Nat} {Q : State → Prop} {dC : Nat → ClassId} {dI : Nat → Nat → Nat} {h0 : Nat} {cI cZ cII cIII : ClassId} (hx : p.tables.exec = Jvm.exec) (hb : c.code = cX10_common) (hml : c.maxLocals = 6) (hown : s.vm.findClass RX10 = some m.cls) (hts : ∀ w ∈ wsG, w.before args s = true) (hK : va_K (dC, dI) vwCl (mT cI cZ cII cIII) s) (hRf : 3 ≤ R.frames) (hRl : 57 ≤ R.locals) (hRc : cells ≤ R.cells) (hRs : slots ≤ R.slots) (μ0 : va_M) (pp : Int) (pq : Int) (i : Int) (hpp : 0 ≤ pp ∧ pp < 8) (hpq : 0 ≤ pq ∧ pq < 8) (hP : 0 ≤ μ0 15 pp.toNat ∧ μ0 15 pp.toNat ≤ 60) (hQ : 0 ≤ μ0 15 pq.toNat ∧ μ0 15 pq.toNat ≤ 60) (hTp : ∀ k : Nat, (k : Int) < μ0 15 pp.toNat → inR (μ0 (7 + pp.toNat) k)) (hTq : ∀ k : Nat, (k : Int) < μ0 15 pq.toNat → inR (μ0 (7 + pq.toNat) k)) (hi : 0 ≤ i ∧ i ≤ μ0 15 pp.toNat) (hexit174 : ∀ (j : Int) (μ : va_M) (H : Heap) (locs : List Loc) (ls : Array Slot), (fr (fun x y => 755 ≤ x ∧ x < 1015) μ0 μ) → (∀ a b : Nat, i ≤ (a : Int) → (a : Int) ≤ μ0 15 pp.toNat → (b : Int) ≤ μ0 15 pq.toNat → 0 ≤ μ (754 + 0 * 261 + 1 + a) b ∧ μ (754 + 0 * 261 + 1 + a) b ≤ μ0 15 pp.toNat - a) → va_P (dC, dI) vwCl (fw (mE cI cZ cII cIII h0) h0 6325 μ) H → va_S (fA h0 6325 s.heap.size) s.heap H locs → lv_has ls 6 [(4, .int (iZ (i))), (3, .ref (h0 + (754 + 0 * 261))), (2, .int (iZ (pq))), (1, .int (iZ (pp))), (0, .ref h0)] → W p l e R s m args below meth c H locs cells slots Q (F0 m 174 ls [])) :
    ∀ (n9 : Nat) (j : Int) (μ : va_M) (H : Heap) (locs : List Loc) (ls : Array Slot), (-1 ≤ j ∧ j ≤ μ0 15 pq.toNat) → (fr (fun x y => 755 ≤ x ∧ x < 1015) μ0 μ) → (∀ a b : Nat, (i < (a : Int) ∨ ((a : Int) = i ∧ j < (b : Int))) → (a : Int) ≤ μ0 15 pp.toNat → (b : Int) ≤ μ0 15 pq.toNat → 0 ≤ μ (754 + 0 * 261 + 1 + a) b ∧ μ (754 + 0 * 261 + 1 + a) b ≤ μ0 15 pp.toNat - a) → (j + 2).toNat < n9 → va_P (dC, dI) vwCl (fw (mE cI cZ cII cIII h0) h0 6325 μ) H → va_S (fA h0 6325 s.heap.size) s.heap H locs → lv_has ls 6 [(5, .int (iZ (j))), (4, .int (iZ (i))), (3, .ref (h0 + (754 + 0 * 261))), (2, .int (iZ (pq))), (1, .int (iZ (pp))), (0, .ref h0)] → W p l e R s m args below meth c H locs cells slots Q (F0 m 65 ls []) := by
  intro n9
  induction n9 with
  | zero => intro j μ H locs ls hj hf hv hm9 hP hS hl; exact absurd hm9 (Nat.not_lt_zero _)
  | succ n9 ih =>
    intro j μ H locs ls hj hf hv hm9 hP hS hl
    have eP := hf 15 pp.toNat (by show ¬ (755 ≤ _ ∧ _); omega)
    have eQ := hf 15 pq.toNat (by show ¬ (755 ≤ _ ∧ _); omega)
    have tP : ∀ k, μ (7 + pp.toNat) k = μ0 (7 + pp.toNat) k := fun k => hf _ _ (by show ¬ (755 ≤ _ ∧ _); omega)
    have tQ : ∀ k, μ (7 + pq.toNat) k = μ0 (7 + pq.toNat) k := fun k => hf _ _ (by show ¬ (755 ≤ _ ∧ _); omega)
    refine lv_iload hx hb dX10_common_65 (lv_at hl 0 rfl) ?_
    refine fz_if_lt (tgt := 174) (by constructor <;> omega) hx hb dX10_common_67 (by decide) (fun c67_ => ?_) (fun c67_ => ?_)
    · exact hexit174 (j) μ H locs ls (by exact hf) (by
                    intro a b h1 h2 h3
                    exact hv a b (by omega) h2 h3) hP hS (lv_sub hl [1, 2, 3, 4, 5] rfl)
    · refine lv_iload hx hb dX10_common_70 (lv_at hl 1 rfl) ?_
      refine lv_aload_n hx hb dX10_common_72 rfl (lv_at hl 5 rfl) ?_
      refine fz_get (D := (dC, dI)) (ci := 10) (v := .ref (h0 + 15)) (C := RX10) (T := TX10) (N := 53) hx hb hts inG10 hown hK hP (k := 0) (by decide) (F := mF h0) mE_obj rfl 15 (by decide) (hts _ k1181) (fun _ h9 => h9) rfl dX10_common_73 ?_
      refine lv_iload_n hx hb dX10_common_76 rfl (lv_at hl 4 rfl) ?_
      refine fz_ld (k := 15) (n := 8) hx hb hK hP 0 (by decide) mE_pageLong rfl ⟨by omega, by omega⟩ (by decide) dX10_common_77 ?_
      refine fz_icmp_eq (tgt := 92) (by constructor <;> omega) (by constructor <;> omega) hx hb dX10_common_78 (by decide) (fun c78_ => ?_) (fun c78_ => ?_)
      · refine lv_aload_n hx hb dX10_common_92 rfl (lv_at hl 2 rfl) ?_
        refine lv_iload hx hb dX10_common_93 (lv_at hl 1 rfl) ?_
        refine fz_ald (k := (754 + 0 * 261)) (n := 260) (k2 := (754 + 0 * 261 + 1 + (i).toNat)) hx hb hK hP 2 rfl (by omega) (mE_leastM (by omega)) rfl ⟨by omega, by omega⟩ (by decide) (if_pos (by omega)) dX10_common_95 ?_
        refine lv_iload hx hb dX10_common_96 (lv_at hl 0 rfl) ?_
        refine lv_iconst (v := iZ 0) hx hb dX10_common_98 rfl ?_
        refine fz_st (k := (754 + 0 * 261 + 1 + (i).toNat)) (n := 62) (i := j) (z := 0) hx hb hK hP fA_in hS 0 (by omega) (mE_leastR (by omega) (by omega)) rfl ⟨by omega, by omega⟩ (by decide) dX10_common_99 (fun H locs hP hS => ?_)
        obtain ⟨μ1, eμ1⟩ : ∃ x : va_M, x = uz μ (754 + 0 * 261 + 1 + (i).toNat) (j).toNat (0) := ⟨_, rfl⟩
        rw [← eμ1] at hP
        refine lv_goto (tgt := 168) hx hb dX10_common_100 (by decide) ?_
        refine lv_iinc (v := iZ (j - 1)) (lv' := [(5, .int (iZ (j - 1))), (4, .int (iZ (i))), (3, .ref (h0 + (754 + 0 * 261))), (2, .int (iZ (pq))), (1, .int (iZ (pp))), (0, .ref h0)]) hx hb dX10_common_168 hl (k := 0) rfl (iZ_add _ (-1)) (by decide) rfl (fun ls hl => ?_)
        refine lv_goto (tgt := 65) hx hb dX10_common_171 (by decide) ?_
        exact ih (j - 1) μ1 H locs ls (by omega) (by
                        subst eμ1
                        exact fr_uz hf (by show 755 ≤ _ ∧ _; omega)) (by
                        intro a b h1 h2 h3
                        subst eμ1
                        by_cases h4 : a = i.toNat ∧ b = j.toNat
                        · obtain ⟨rfl, rfl⟩ := h4
                          rw [uz_s]
                          first | omega | (have h9 := h?; omega) | (have h9 := h?; split at h9 <;> omega)
                        · rw [uz_n (by omega)]; exact hv a b (by omega) h2 h3) (by omega) hP hS (lv_sub hl [0, 1, 2, 3, 4, 5] rfl)
      · refine lv_iload hx hb dX10_common_81 (lv_at hl 0 rfl) ?_
        refine lv_aload_n hx hb dX10_common_83 rfl (lv_at hl 5 rfl) ?_
        refine fz_get (D := (dC, dI)) (ci := 10) (v := .ref (h0 + 15)) (C := RX10) (T := TX10) (N := 53) hx hb hts inG10 hown hK hP (k := 0) (by decide) (F := mF h0) mE_obj rfl 15 (by decide) (hts _ k1181) (fun _ h9 => h9) rfl dX10_common_84 ?_
        refine lv_iload_n hx hb dX10_common_87 rfl (lv_at hl 3 rfl) ?_
        refine fz_ld (k := 15) (n := 8) hx hb hK hP 0 (by decide) mE_pageLong rfl ⟨by omega, by omega⟩ (by decide) dX10_common_88 ?_
        refine fz_icmp_ne (tgt := 103) (by constructor <;> omega) (by constructor <;> omega) hx hb dX10_common_89 (by decide) (fun c89_ => ?_) (fun c89_ => ?_)
        · have r1 := hTp i.toNat (by omega)
          have r2 := hTq j.toNat (by omega)
          have v1 := hv (i.toNat + 1) (j.toNat + 1) (by omega) (by omega) (by omega)
          have v2 := hv (i.toNat + 1) j.toNat (by omega) (by omega) (by omega)
          have v3 := hv i.toNat (j.toNat + 1) (by omega) (by omega) (by omega)
          have ei : (i + 1).toNat = i.toNat + 1 := by omega
          have ej : (j + 1).toNat = j.toNat + 1 := by omega
          rw [← tP] at r1
          rw [← tQ] at r2
          refine lv_aload_n hx hb dX10_common_103 rfl (lv_at hl 2 rfl) ?_
          refine lv_iload hx hb dX10_common_104 (lv_at hl 1 rfl) ?_
          refine fz_ald (k := (754 + 0 * 261)) (n := 260) (k2 := (754 + 0 * 261 + 1 + (i).toNat)) hx hb hK hP 2 rfl (by omega) (mE_leastM (by omega)) rfl ⟨by omega, by omega⟩ (by decide) (if_pos (by omega)) dX10_common_106 ?_
          refine lv_iload hx hb dX10_common_107 (lv_at hl 0 rfl) ?_
          refine lv_aload_n hx hb dX10_common_109 rfl (lv_at hl 5 rfl) ?_
          refine fz_get (D := (dC, dI)) (ci := 10) (v := .ref (h0 + 6)) (C := RX10) (T := TX10) (N := 53) hx hb hts inG10 hown hK hP (k := 0) (by decide) (F := mF h0) mE_obj rfl 14 (by decide) (hts _ k1180) (fun _ h9 => h9) rfl dX10_common_110 ?_
          refine lv_iload_n hx hb dX10_common_113 rfl (lv_at hl 4 rfl) ?_
          refine fz_ald (k := 6) (n := 8) (k2 := (7 + (pp).toNat)) hx hb hK hP 2 rfl (by decide) mE_page rfl ⟨by omega, by omega⟩ (by decide) (if_pos (by omega)) dX10_common_114 ?_
          refine lv_iload hx hb dX10_common_115 (lv_at hl 1 rfl) ?_
          refine fz_ld (k := (7 + (pp).toNat)) (n := 60) hx hb hK hP 0 (by omega) (mE_pageR (by omega)) rfl ⟨by omega, by omega⟩ (by decide) dX10_common_117 ?_
          refine lv_aload_n hx hb dX10_common_118 rfl (lv_at hl 5 rfl) ?_
          refine fz_get (D := (dC, dI)) (ci := 10) (v := .ref (h0 + 6)) (C := RX10) (T := TX10) (N := 53) hx hb hts inG10 hown hK hP (k := 0) (by decide) (F := mF h0) mE_obj rfl 14 (by decide) (hts _ k1180) (fun _ h9 => h9) rfl dX10_common_119 ?_
          refine lv_iload_n hx hb dX10_common_122 rfl (lv_at hl 3 rfl) ?_
          refine fz_ald (k := 6) (n := 8) (k2 := (7 + (pq).toNat)) hx hb hK hP 2 rfl (by decide) mE_page rfl ⟨by omega, by omega⟩ (by decide) (if_pos (by omega)) dX10_common_123 ?_
          refine lv_iload hx hb dX10_common_124 (lv_at hl 0 rfl) ?_
          refine fz_ld (k := (7 + (pq).toNat)) (n := 60) hx hb hK hP 0 (by omega) (mE_pageR (by omega)) rfl ⟨by omega, by omega⟩ (by decide) dX10_common_126 ?_
          refine fz_icmp_ne (tgt := 146) (by first | exact r1 | exact r2) (by first | exact r1 | exact r2) hx hb dX10_common_127 (by decide) (fun c127_ => ?_) (fun c127_ => ?_)
          · refine lv_aload_n hx hb dX10_common_146 rfl (lv_at hl 2 rfl) ?_
            refine lv_iload hx hb dX10_common_147 (lv_at hl 1 rfl) ?_
            refine lv_iconst (v := iZ 1) hx hb dX10_common_149 rfl ?_
            refine lv_iadd hx hb dX10_common_150 ?_
            refine lv_topi (fun x9 ex9 => ?_)
            obtain rfl : x9 = iZ (i + 1) := ex9.trans (iZ_add _ _)
            refine fz_ald (k := (754 + 0 * 261)) (n := 260) (k2 := (754 + 0 * 261 + 1 + (i + 1).toNat)) hx hb hK hP 2 rfl (by omega) (mE_leastM (by omega)) rfl ⟨by omega, by omega⟩ (by decide) (if_pos (by omega)) dX10_common_151 ?_
            refine lv_iload hx hb dX10_common_152 (lv_at hl 0 rfl) ?_
            refine fz_ld (k := (754 + 0 * 261 + 1 + (i + 1).toNat)) (n := 62) hx hb hK hP 0 (by omega) (mE_leastR (by omega) (by omega)) rfl ⟨by omega, by omega⟩ (by decide) dX10_common_154 ?_
            rw [show μ (754 + 0 * 261 + 1 + (i + 1).toNat) (j).toNat = μ (754 + 0 * 261 + 1 + (i.toNat + 1)) j.toNat from (by rw [ei])]
            refine lv_aload_n hx hb dX10_common_155 rfl (lv_at hl 2 rfl) ?_
            refine lv_iload hx hb dX10_common_156 (lv_at hl 1 rfl) ?_
            refine fz_ald (k := (754 + 0 * 261)) (n := 260) (k2 := (754 + 0 * 261 + 1 + (i).toNat)) hx hb hK hP 2 rfl (by omega) (mE_leastM (by omega)) rfl ⟨by omega, by omega⟩ (by decide) (if_pos (by omega)) dX10_common_158 ?_
            refine lv_iload hx hb dX10_common_159 (lv_at hl 0 rfl) ?_
            refine lv_iconst (v := iZ 1) hx hb dX10_common_161 rfl ?_
            refine lv_iadd hx hb dX10_common_162 ?_
            refine lv_topi (fun x9 ex9 => ?_)
            obtain rfl : x9 = iZ (j + 1) := ex9.trans (iZ_add _ _)
            refine fz_ld (k := (754 + 0 * 261 + 1 + (i).toNat)) (n := 62) hx hb hK hP 0 (by omega) (mE_leastR (by omega) (by omega)) rfl ⟨by omega, by omega⟩ (by decide) dX10_common_163 ?_
            rw [show μ (754 + 0 * 261 + 1 + (i).toNat) (j + 1).toNat = μ (754 + 0 * 261 + 1 + i.toNat) (j.toNat + 1) from (by rw [ej])]
            refine va_calli (va_runS (As := [.int (iZ (μ (754 + 0 * 261 + 1 + (i.toNat + 1)) j.toNat)), .int (iZ (μ (754 + 0 * 261 + 1 + i.toNat) (j.toNat + 1)))]) (rest := [.int (iZ (j)), .ref (h0 + (754 + 0 * 261 + 1 + (i).toNat))]) ⟨hx, hb, hml, hown, hts⟩ (m_more l dC dI cI cZ cII cIII h0 H.size μ (μ (754 + 0 * 261 + 1 + (i.toNat + 1)) j.toNat) (μ (754 + 0 * 261 + 1 + i.toNat) (j.toNat + 1)) (by constructor <;> omega) (by constructor <;> omega)) (cwS 2 hts (gS_G k1596 k1597 k13 k1598) rfl rfl rfl (by decide +kernel) ⟨by show 1 + 1 ≤ _; omega, by show 8 + (2 + 11) + (14) ≤ _; omega⟩) ⟨fun a U g mk q => by obtain ⟨q0, q1, qP, qK⟩ := q; exact ⟨q0, q1, qP, va_K.moved (u := U) (U := U.calling g mk a) (Vm.Alike.refl U.vm) qK⟩, fun U hU hW => ⟨rfl, by rw [hU], by rw [hU]; exact hP, va_K.moved hW.alike hK⟩⟩ rfl rfl hl.1 rfl (lv_room (Nat.le_of_ble_eq_true rfl)) dX10_common_164 ⟨hRc, hRs⟩) hS (fun q _ h => fA_le hS.1 q h) (fA_le hS.1) (fun r9 u9 t9 H1 locs ht9 hvm9 hw9 hB9 hz9 hk9 hS => ?_)
            obtain ⟨μ2, r3⟩ := u9
            obtain ⟨hP, -⟩ := hB9
            rw [ht9] at hP
            generalize H1 = H at hP hS ⊢
            obtain ⟨e9, hw9⟩ := hw9
            have e9 : r9 = iZ r3 := e9
            subst e9
            simp only at hP hw9
            have hμ2 := hw9; clear hw9
            rw [hμ2.1] at hP; have hμ2 := hμ2.2
            refine fz_st (k := (754 + 0 * 261 + 1 + (i).toNat)) (n := 62) (i := j) (z := r3) hx hb hK hP fA_in hS 0 (by omega) (mE_leastR (by omega) (by omega)) rfl ⟨by omega, by omega⟩ (by decide) dX10_common_167 (fun H locs hP hS => ?_)
            obtain ⟨μ4, eμ4⟩ : ∃ x : va_M, x = uz μ (754 + 0 * 261 + 1 + (i).toNat) (j).toNat (r3) := ⟨_, rfl⟩
            rw [← eμ4] at hP
            refine lv_iinc (v := iZ (j - 1)) (lv' := [(5, .int (iZ (j - 1))), (4, .int (iZ (i))), (3, .ref (h0 + (754 + 0 * 261))), (2, .int (iZ (pq))), (1, .int (iZ (pp))), (0, .ref h0)]) hx hb dX10_common_168 hl (k := 0) rfl (iZ_add _ (-1)) (by decide) rfl (fun ls hl => ?_)
            refine lv_goto (tgt := 65) hx hb dX10_common_171 (by decide) ?_
            exact ih (j - 1) μ4 H locs ls (by omega) (by
                                subst eμ4
                                exact fr_uz hf (by show 755 ≤ _ ∧ _; omega)) (by
                                intro a b h1 h2 h3
                                subst eμ4
                                by_cases h4 : a = i.toNat ∧ b = j.toNat
                                · obtain ⟨rfl, rfl⟩ := h4
                                  rw [uz_s]
                                  first | omega | (have h9 := hμ2; omega) | (have h9 := hμ2; split at h9 <;> omega)
                                · rw [uz_n (by omega)]; exact hv a b (by omega) h2 h3) (by omega) hP hS (lv_sub hl [0, 1, 2, 3, 4, 5] rfl)
          · refine lv_iconst (v := iZ 1) hx hb dX10_common_130 rfl ?_
            refine lv_aload_n hx hb dX10_common_131 rfl (lv_at hl 2 rfl) ?_
            refine lv_iload hx hb dX10_common_132 (lv_at hl 1 rfl) ?_
            refine lv_iconst (v := iZ 1) hx hb dX10_common_134 rfl ?_
            refine lv_iadd hx hb dX10_common_135 ?_
            refine lv_topi (fun x9 ex9 => ?_)
            obtain rfl : x9 = iZ (i + 1) := ex9.trans (iZ_add _ _)
            refine fz_ald (k := (754 + 0 * 261)) (n := 260) (k2 := (754 + 0 * 261 + 1 + (i + 1).toNat)) hx hb hK hP 2 rfl (by omega) (mE_leastM (by omega)) rfl ⟨by omega, by omega⟩ (by decide) (if_pos (by omega)) dX10_common_136 ?_
            refine lv_iload hx hb dX10_common_137 (lv_at hl 0 rfl) ?_
            refine lv_iconst (v := iZ 1) hx hb dX10_common_139 rfl ?_
            refine lv_iadd hx hb dX10_common_140 ?_
            refine lv_topi (fun x9 ex9 => ?_)
            obtain rfl : x9 = iZ (j + 1) := ex9.trans (iZ_add _ _)
            refine fz_ld (k := (754 + 0 * 261 + 1 + (i + 1).toNat)) (n := 62) hx hb hK hP 0 (by omega) (mE_leastR (by omega) (by omega)) rfl ⟨by omega, by omega⟩ (by decide) dX10_common_141 ?_
            rw [show μ (754 + 0 * 261 + 1 + (i + 1).toNat) (j + 1).toNat = μ (754 + 0 * 261 + 1 + (i.toNat + 1)) (j.toNat + 1) from (by rw [ei, ej])]
            refine lv_iadd hx hb dX10_common_142 ?_
            refine lv_topi (fun x9 ex9 => ?_)
            obtain rfl : x9 = iZ (1 + (μ (754 + 0 * 261 + 1 + (i.toNat + 1)) (j.toNat + 1))) := ex9.trans (iZ_add _ _)
            refine lv_goto (tgt := 167) hx hb dX10_common_143 (by decide) ?_
            refine fz_st (k := (754 + 0 * 261 + 1 + (i).toNat)) (n := 62) (i := j) (z := (1 + (μ (754 + 0 * 261 + 1 + (i.toNat + 1)) (j.toNat + 1)))) hx hb hK hP fA_in hS 0 (by omega) (mE_leastR (by omega) (by omega)) rfl ⟨by omega, by omega⟩ (by decide) dX10_common_167 (fun H locs hP hS => ?_)
            obtain ⟨μ5, eμ5⟩ : ∃ x : va_M, x = uz μ (754 + 0 * 261 + 1 + (i).toNat) (j).toNat (1 + (μ (754 + 0 * 261 + 1 + (i.toNat + 1)) (j.toNat + 1))) := ⟨_, rfl⟩
            rw [← eμ5] at hP
            refine lv_iinc (v := iZ (j - 1)) (lv' := [(5, .int (iZ (j - 1))), (4, .int (iZ (i))), (3, .ref (h0 + (754 + 0 * 261))), (2, .int (iZ (pq))), (1, .int (iZ (pp))), (0, .ref h0)]) hx hb dX10_common_168 hl (k := 0) rfl (iZ_add _ (-1)) (by decide) rfl (fun ls hl => ?_)
            refine lv_goto (tgt := 65) hx hb dX10_common_171 (by decide) ?_
            exact ih (j - 1) μ5 H locs ls (by omega) (by
                                subst eμ5
                                exact fr_uz hf (by show 755 ≤ _ ∧ _; omega)) (by
                                intro a b h1 h2 h3
                                subst eμ5
                                by_cases h4 : a = i.toNat ∧ b = j.toNat
                                · obtain ⟨rfl, rfl⟩ := h4
                                  rw [uz_s]
                                  first | omega | (have h9 := h?; omega) | (have h9 := h?; split at h9 <;> omega)
                                · rw [uz_n (by omega)]; exact hv a b (by omega) h2 h3) (by omega) hP hS (lv_sub hl [0, 1, 2, 3, 4, 5] rfl)
        · refine lv_aload_n hx hb dX10_common_92 rfl (lv_at hl 2 rfl) ?_
          refine lv_iload hx hb dX10_common_93 (lv_at hl 1 rfl) ?_
          refine fz_ald (k := (754 + 0 * 261)) (n := 260) (k2 := (754 + 0 * 261 + 1 + (i).toNat)) hx hb hK hP 2 rfl (by omega) (mE_leastM (by omega)) rfl ⟨by omega, by omega⟩ (by decide) (if_pos (by omega)) dX10_common_95 ?_
          refine lv_iload hx hb dX10_common_96 (lv_at hl 0 rfl) ?_
          refine lv_iconst (v := iZ 0) hx hb dX10_common_98 rfl ?_
          refine fz_st (k := (754 + 0 * 261 + 1 + (i).toNat)) (n := 62) (i := j) (z := 0) hx hb hK hP fA_in hS 0 (by omega) (mE_leastR (by omega) (by omega)) rfl ⟨by omega, by omega⟩ (by decide) dX10_common_99 (fun H locs hP hS => ?_)
          obtain ⟨μ6, eμ6⟩ : ∃ x : va_M, x = uz μ (754 + 0 * 261 + 1 + (i).toNat) (j).toNat (0) := ⟨_, rfl⟩
          rw [← eμ6] at hP
          refine lv_goto (tgt := 168) hx hb dX10_common_100 (by decide) ?_
          refine lv_iinc (v := iZ (j - 1)) (lv' := [(5, .int (iZ (j - 1))), (4, .int (iZ (i))), (3, .ref (h0 + (754 + 0 * 261))), (2, .int (iZ (pq))), (1, .int (iZ (pp))), (0, .ref h0)]) hx hb dX10_common_168 hl (k := 0) rfl (iZ_add _ (-1)) (by decide) rfl (fun ls hl => ?_)
          refine lv_goto (tgt := 65) hx hb dX10_common_171 (by decide) ?_
          exact ih (j - 1) μ6 H locs ls (by omega) (by
                            subst eμ6
                            exact fr_uz hf (by show 755 ≤ _ ∧ _; omega)) (by
                            intro a b h1 h2 h3
                            subst eμ6
                            by_cases h4 : a = i.toNat ∧ b = j.toNat
                            · obtain ⟨rfl, rfl⟩ := h4
                              rw [uz_s]
                              first | omega | (have h9 := h?; omega) | (have h9 := h?; split at h9 <;> omega)
                            · rw [uz_n (by omega)]; exact hv a b (by omega) h2 h3) (by omega) hP hS (lv_sub hl [0, 1, 2, 3, 4, 5] rfl)
set_option maxHeartbeats 4000000 in
set_option maxRecDepth 100000 in
theorem LX10_common_52 {p : Program} {l : Launch} {e : Env} {R : Room} {s : State} {m : MethodId} {args : Array Value} {below : List Frame} {meth : Method} {c : Code} {cells slots : Nat} {Q : State → Prop} {dC : Nat → ClassId} {dI : Nat → Nat → Nat} {h0 : Nat} {cI cZ cII cIII : ClassId} (hx : p.tables.exec = Jvm.exec) (hb : c.code = cX10_common) (hml : c.maxLocals = 6) (hown : s.vm.findClass RX10 = some m.cls) (hts : ∀ w ∈ wsG, w.before args s = true) (hK : va_K (dC, dI) vwCl (mT cI cZ cII cIII) s) (hRf : 3 ≤ R.frames) (hRl : 57 ≤ R.locals) (hRc : cells ≤ R.cells) (hRs : slots ≤ R.slots) (μ0 : va_M) (pp : Int) (pq : Int) (hpp : 0 ≤ pp ∧ pp < 8) (hpq : 0 ≤ pq ∧ pq < 8) (hP : 0 ≤ μ0 15 pp.toNat ∧ μ0 15 pp.toNat ≤ 60) (hQ : 0 ≤ μ0 15 pq.toNat ∧ μ0 15 pq.toNat ≤ 60) (hTp : ∀ k : Nat, (k : Int) < μ0 15 pp.toNat → inR (μ0 (7 + pp.toNat) k)) (hTq : ∀ k : Nat, (k : Int) < μ0 15 pq.toNat → inR (μ0 (7 + pq.toNat) k)) (hexit180 : ∀ (i : Int) (μ : va_M) (H : Heap) (locs : List Loc) (ls : Array Slot), (fr (fun x y => 755 ≤ x ∧ x < 1015) μ0 μ) → va_P (dC, dI) vwCl (fw (mE cI cZ cII cIII h0) h0 6325 μ) H → va_S (fA h0 6325 s.heap.size) s.heap H locs → lv_has ls 6 [(3, .ref (h0 + (754 + 0 * 261)))] → W p l e R s m args below meth c H locs cells slots Q (F0 m 180 ls [])) :
    ∀ (n9 : Nat) (i : Int) (μ : va_M) (H : Heap) (locs : List Loc) (ls : Array Slot), (-1 ≤ i ∧ i ≤ μ0 15 pp.toNat) → (fr (fun x y => 755 ≤ x ∧ x < 1015) μ0 μ) → (∀ a b : Nat, i < (a : Int) → (a : Int) ≤ μ0 15 pp.toNat → (b : Int) ≤ μ0 15 pq.toNat → 0 ≤ μ (754 + 0 * 261 + 1 + a) b ∧ μ (754 + 0 * 261 + 1 + a) b ≤ μ0 15 pp.toNat - a) → (i + 2).toNat < n9 → va_P (dC, dI) vwCl (fw (mE cI cZ cII cIII h0) h0 6325 μ) H → va_S (fA h0 6325 s.heap.size) s.heap H locs → lv_has ls 6 [(4, .int (iZ (i))), (3, .ref (h0 + (754 + 0 * 261))), (2, .int (iZ (pq))), (1, .int (iZ (pp))), (0, .ref h0)] → W p l e R s m args below meth c H locs cells slots Q (F0 m 52 ls []) := by
  intro n9
  induction n9 with
  | zero => intro i μ H locs ls hi hf hv hm9 hP hS hl; exact absurd hm9 (Nat.not_lt_zero _)
  | succ n9 ih =>
    intro i μ H locs ls hi hf hv hm9 hP hS hl
    have eP := hf 15 pp.toNat (by show ¬ (755 ≤ _ ∧ _); omega)
    have eQ := hf 15 pq.toNat (by show ¬ (755 ≤ _ ∧ _); omega)
    refine lv_iload hx hb dX10_common_52 (lv_at hl 0 rfl) ?_
    refine fz_if_lt (tgt := 180) (by constructor <;> omega) hx hb dX10_common_54 (by decide) (fun c54_ => ?_) (fun c54_ => ?_)
    · exact hexit180 (i) μ H locs ls (by exact hf) hP hS (lv_sub hl [1] rfl)
    · refine lv_aload_n hx hb dX10_common_57 rfl (lv_at hl 4 rfl) ?_
      refine fz_get (D := (dC, dI)) (ci := 10) (v := .ref (h0 + 15)) (C := RX10) (T := TX10) (N := 53) hx hb hts inG10 hown hK hP (k := 0) (by decide) (F := mF h0) mE_obj rfl 15 (by decide) (hts _ k1181) (fun _ h9 => h9) rfl dX10_common_58 ?_
      refine lv_iload_n hx hb dX10_common_61 rfl (lv_at hl 2 rfl) ?_
      refine fz_ld (k := 15) (n := 8) hx hb hK hP 0 (by decide) mE_pageLong rfl ⟨by omega, by omega⟩ (by decide) dX10_common_62 ?_
      refine lv_istore (lv' := [(5, .int (iZ (μ 15 (pq).toNat))), (4, .int (iZ (i))), (3, .ref (h0 + (754 + 0 * 261))), (2, .int (iZ (pq))), (1, .int (iZ (pp))), (0, .ref h0)]) hx hb dX10_common_63 hl (by decide) rfl (fun ls hl => ?_)
      refine LX10_common_65 hx hb hml hown hts hK hRf hRl hRc hRs (μ0) (pp) (pq) (i) (by assumption) (by assumption) (by assumption) (by assumption) (by assumption) (by assumption) (by omega) ?_ _ (μ 15 (pq).toNat) μ H locs ls (by omega) (by exact hf) (by
                    intro a b h1 h2 h3
                    exact hv a b (by omega) h2 h3) (Nat.lt_succ_self _) hP hS (lv_sub hl [0, 1, 2, 3, 4, 5] rfl)
      · intro j_7 μ7_ H locs ls q1_7 q2_7 hP hS hl
        have hl : lv_has ls 6 [(4, .int (iZ (i))), (3, .ref (h0 + (754 + 0 * 261))), (2, .int (iZ (pq))), (1, .int (iZ (pp))), (0, .ref h0)] := hl
        refine lv_iinc (v := iZ (i - 1)) (lv' := [(4, .int (iZ (i - 1))), (3, .ref (h0 + (754 + 0 * 261))), (2, .int (iZ (pq))), (1, .int (iZ (pp))), (0, .ref h0)]) hx hb dX10_common_174 hl (k := 0) rfl (iZ_add _ (-1)) (by decide) rfl (fun ls hl => ?_)
        refine lv_goto (tgt := 52) hx hb dX10_common_177 (by decide) ?_
        exact ih (i - 1) μ7_ H locs ls (by omega) (by exact q1_7) (by
                        intro a b h1 h2 h3
                        exact q2_7 a b (by omega) h2 h3) (by omega) hP hS (lv_sub hl [0, 1, 2, 3, 4] rfl)
set_option maxHeartbeats 4000000 in
set_option maxRecDepth 100000 in
theorem m_common (l : Launch) (dC : Nat → ClassId) (dI : Nat → Nat → Nat) (cI cZ cII cIII : ClassId) (h0 sz : Nat) (μ : va_M) (pp : Int) (pq : Int) (hQ : RQ μ) (hp : inR pp) (hq : inR pq) : Met l yX10_common (Cond.code yX10_common cX10_common 6 (some .int) :: wsG) ({ frames := 3, cells := 0, slots := 0, locals := 57 } : Room) (va_Pc [.ref h0, .int (iZ (pp)), .int (iZ (pq))] (fun U => U.heap.size = sz ∧ va_P (dC, dI) vwCl (fw (mE cI cZ cII cIII h0) h0 6325 μ) U.heap ∧ va_K (dC, dI) vwCl (mT cI cZ cII cIII) U)) (va_Qi (fun (r9 : Int32) (u : va_M × Int) => r9 = iZ u.2 ∧ (fun (u : va_M) (r : Int) => fr PS μ u ∧ (u 0 0 = 0 ∨ u 0 0 = 1 ∨ u 0 0 = 2)) u.1 u.2) (fun u t => va_P (dC, dI) vwCl (fw (mE cI cZ cII cIII h0) h0 6325 u.1) t.heap ∧ va_K (dC, dI) vwCl (mT cI cZ cII cIII) t) (fA h0 6325 sz)) 0 0 (fA h0 6325 sz) := by
  refine Met.ofW (cc := cX10_common) (maxL := 6) (ret := (some .int)) (by decide) rfl ?_
  intro p e s m args below meth c s₁ B hml hv
  obtain ⟨rfl, hsz, hP, hK⟩ := hv
  have hx := B.exec
  have hb := B.bytes
  have hr := B.returns
  have hts : ∀ w ∈ wsG, w.before _ s = true := hG_of (atoms_spec (ws := (Cond.code yX10_common cX10_common 6 (some .int) :: wsG)) B.pre)
  have hown : s.vm.findClass RX10 = some m.cls := findClass_of_methodNamed B.named
  have hlocks := B.notSynchronized
  subst hsz
  have hS : va_S (fA h0 6325 s.heap.size) s.heap s.heap [] := va_S.rf
  have hl := lv_entry ([.ref h0, .int (iZ (pp)), .int (iZ (pq))]) (n := 6) (Nat.le_of_ble_eq_true rfl)
  rw [lg_entry_eq]
  generalize (lg_sl ([.ref h0, .int (iZ (pp)), .int (iZ (pq))]) ++ List.replicate (6 - (lg_sl ([.ref h0, .int (iZ (pp)), .int (iZ (pq))])).length) Slot.unset).toArray = ls at hl ⊢
  have hl : lv_has ls 6 [(0, .ref h0), (1, .int (iZ (pp))), (2, .int (iZ (pq)))] := hl
  refine lv_aload_n hx hb dX10_common_0 rfl (lv_at hl 0 rfl) ?_
  refine lv_iconst (v := iZ 0) hx hb dX10_common_1 rfl ?_
  refine fz_put (D := (dC, dI)) (ci := 10) (ty := .int) (z := 0) (C := RX10) (T := TX10) (N := 53) hx hb hts inG10 tyX10 tyX10_ok nmX10 hown hK hP fA_in hS (k := 0) (by decide) (F := mF h0) mE_obj rfl 0 (by decide) (hts _ k1166) (fun _ h9 => h9) rfl (by decide +kernel) rfl rfl (fun _ => Nat.le_of_ble_eq_true rfl) (fun _ _ => rfl) dX10_common_2 (fun H locs hP hS => ?_)
  obtain ⟨μ8, eμ8⟩ : ∃ x : va_M, x = uz μ 0 0 (0) := ⟨_, rfl⟩
  rw [← eμ8] at hP
  have hfr : fr PS μ μ8 := by rw [eμ8]; exact fr_uz fr_rfl (by unfold PS; omega)
  have ht0 : μ8 0 0 = 0 := by rw [eμ8, uz_s]
  have e10 := hfr 0 10 (PS_n (by omega))
  have e9 := hfr 0 9 (PS_n (by omega))
  have e71 := hfr 719 0 (PS_n (by omega))
  have hQ1 := RQ_fr hQ hfr
  have hQc := hQ
  obtain ⟨f10, ⟨fT, fTb, fTw⟩, fS3, fPg, fw9, fwB, fwT⟩ := hQc
  obtain ⟨g10, ⟨gT, gTb, gTw⟩, gS3, gPg, gw, gwB, gwT⟩ := hQ1
  have gtk := TR_tok gwT gwB.1 gwB.2.1
  have gt1 := gtk.1
  have gt2 := gtk.2.1
  refine lv_aload_n hx hb dX10_common_5 rfl (lv_at hl 0 rfl) ?_
  refine lv_aload_n hx hb dX10_common_6 rfl (lv_at hl 0 rfl) ?_
  refine lv_iload_n hx hb dX10_common_7 rfl (lv_at hl 1 rfl) ?_
  refine va_calli (va_runV (As := [.int (iZ (pp))]) (rest := [.ref h0]) ⟨hx, hb, hml, hown, hts⟩ (m_isPage l dC dI cI cZ cII cIII h0 H.size μ8 (pp) (by first | assumption | omega | exact ⟨by omega, by omega⟩) (by first | assumption | omega | exact ⟨by omega, by omega⟩)) (cwV 1 hts (gV_G k1584 k1586 ks_yX10_isPage k13 k1587) rfl rfl rfl (by decide +kernel) ⟨Nat.le_of_ble_eq_true rfl, Nat.le_of_ble_eq_true rfl⟩) ⟨fun a U g mk q => by obtain ⟨q0, q1, qP, qK⟩ := q; exact ⟨q0, q1, qP, va_K.moved (u := U) (U := U.calling g mk a) (Vm.Alike.refl U.vm) qK⟩, va_recv hK hP (ci := 10) (q0 := 0) rfl ((fw_get (by decide)).trans (by rw [mE_obj]; rfl)), fun U hU hW => ⟨rfl, by rw [hU], by rw [hU]; exact hP, va_K.moved hW.alike hK⟩⟩ rfl rfl hl.1 rfl (lv_room (Nat.le_of_ble_eq_true rfl)) dX10_common_8 ⟨Nat.le_of_ble_eq_true rfl, Nat.le_of_ble_eq_true rfl⟩) hS (fun q _ h => fA_le hS.1 q h) (fA_le hS.1) (fun r9 u9 t9 H1 locs ht9 hvm9 hw9 hB9 hz9 hk9 hS => ?_)
  obtain ⟨μ10, r11⟩ := u9
  obtain ⟨hP, -⟩ := hB9
  rw [ht9] at hP
  generalize H1 = H at hP hS ⊢
  obtain ⟨e9, hw9⟩ := hw9
  have e9 : r9 = iZ r11 := e9
  subst e9
  simp only at hP hw9
  have hμ10 := hw9; clear hw9
  rw [hμ10.1] at hP; have hμ10 := hμ10.2
  have hip := hμ10
  have hip2 := if_01 hμ10
  refine fz_if_eq (tgt := 22) (by constructor <;> omega) hx hb dX10_common_11 (by decide) (fun c11_ => ?_) (fun c11_ => ?_)
  · refine lv_iconst (v := iZ 1) hx hb dX10_common_22 rfl ?_
    refine lv_goto (tgt := 27) hx hb dX10_common_23 (by decide) ?_
    refine lv_iconst (v := iZ 1) hx hb dX10_common_27 rfl ?_
    refine lv_iconst (v := iZ 0) hx hb dX10_common_28 rfl ?_
    refine va_calli (va_runV (As := [.int (iZ (1)), .int (iZ (1)), .int (iZ (0))]) (rest := []) ⟨hx, hb, hml, hown, hts⟩ (m_bad2 l dC dI cI cZ cII cIII h0 H.size μ8 (1) (1) (0) (by first | assumption | omega | exact ⟨by omega, by omega⟩) (by first | assumption | omega | exact ⟨by omega, by omega⟩) (by first | assumption | omega | exact ⟨by omega, by omega⟩) (by first | assumption | omega | exact ⟨by omega, by omega⟩)) (cwV 3 hts (gV_G k1338 k1340 ks_yX10_bad k13 k1341) rfl rfl rfl (by decide +kernel) ⟨Nat.le_of_ble_eq_true rfl, Nat.le_of_ble_eq_true rfl⟩) ⟨fun a U g mk q => by obtain ⟨q0, q1, qP, qK⟩ := q; exact ⟨q0, q1, qP, va_K.moved (u := U) (U := U.calling g mk a) (Vm.Alike.refl U.vm) qK⟩, va_recv hK hP (ci := 10) (q0 := 0) rfl ((fw_get (by decide)).trans (by rw [mE_obj]; rfl)), fun U hU hW => ⟨rfl, by rw [hU], by rw [hU]; exact hP, va_K.moved hW.alike hK⟩⟩ rfl rfl hl.1 rfl (lv_room (Nat.le_of_ble_eq_true rfl)) dX10_common_29 ⟨Nat.le_of_ble_eq_true rfl, Nat.le_of_ble_eq_true rfl⟩) hS (fun q _ h => fA_le hS.1 q h) (fA_le hS.1) (fun r9 u9 t9 H1 locs ht9 hvm9 hw9 hB9 hz9 hk9 hS => ?_)
    obtain ⟨μ12, r13⟩ := u9
    obtain ⟨hP, -⟩ := hB9
    rw [ht9] at hP
    generalize H1 = H at hP hS ⊢
    obtain ⟨e9, hw9⟩ := hw9
    have e9 : r9 = iZ r13 := e9
    subst e9
    simp only at hP hw9
    have hμ12 := hw9; clear hw9
    have hfr := fr_trans hfr (badP_fr hμ12)
    have hrb := badP_r hμ12
    obtain rfl : r13 = 1 := by omega
    refine fz_if_eq (tgt := 37) (by decide) hx hb dX10_common_32 (by decide) (fun h9 => absurd h9 (by decide)) (fun c32_ => ?_)
    refine lv_iconst (v := iZ 0) hx hb dX10_common_35 rfl ?_
    exact W.iret (v := iZ (0)) hx hb hr (fun t9 ht9 hW9 => ⟨⟨iZ (0), (μ12, 0), rfl, ⟨rfl, (by
                dsimp only
                exact ⟨hfr, by omega⟩)⟩, by rw [ht9]; exact hP, va_K.moved hW9.alike hK⟩, hS.F ht9⟩) hS.2.2 dX10_common_36
  · have hpp := if_get hip (by omega)
    refine lv_aload_n hx hb dX10_common_14 rfl (lv_at hl 0 rfl) ?_
    refine lv_iload_n hx hb dX10_common_15 rfl (lv_at hl 2 rfl) ?_
    refine va_calli (va_runV (As := [.int (iZ (pq))]) (rest := [.ref h0]) ⟨hx, hb, hml, hown, hts⟩ (m_isPage l dC dI cI cZ cII cIII h0 H.size μ8 (pq) (by first | assumption | omega | exact ⟨by omega, by omega⟩) (by first | assumption | omega | exact ⟨by omega, by omega⟩)) (cwV 1 hts (gV_G k1584 k1586 ks_yX10_isPage k13 k1587) rfl rfl rfl (by decide +kernel) ⟨Nat.le_of_ble_eq_true rfl, Nat.le_of_ble_eq_true rfl⟩) ⟨fun a U g mk q => by obtain ⟨q0, q1, qP, qK⟩ := q; exact ⟨q0, q1, qP, va_K.moved (u := U) (U := U.calling g mk a) (Vm.Alike.refl U.vm) qK⟩, va_recv hK hP (ci := 10) (q0 := 0) rfl ((fw_get (by decide)).trans (by rw [mE_obj]; rfl)), fun U hU hW => ⟨rfl, by rw [hU], by rw [hU]; exact hP, va_K.moved hW.alike hK⟩⟩ rfl rfl hl.1 rfl (lv_room (Nat.le_of_ble_eq_true rfl)) dX10_common_16 ⟨Nat.le_of_ble_eq_true rfl, Nat.le_of_ble_eq_true rfl⟩) hS (fun q _ h => fA_le hS.1 q h) (fA_le hS.1) (fun r9 u9 t9 H1 locs ht9 hvm9 hw9 hB9 hz9 hk9 hS => ?_)
    obtain ⟨μ14, r15⟩ := u9
    obtain ⟨hP, -⟩ := hB9
    rw [ht9] at hP
    generalize H1 = H at hP hS ⊢
    obtain ⟨e9, hw9⟩ := hw9
    have e9 : r9 = iZ r15 := e9
    subst e9
    simp only at hP hw9
    have hμ14 := hw9; clear hw9
    rw [hμ14.1] at hP; have hμ14 := hμ14.2
    have hjn := hμ14
    have hjn2 := if_01 hμ14
    refine fz_if_ne (tgt := 26) (by constructor <;> omega) hx hb dX10_common_19 (by decide) (fun c19_ => ?_) (fun c19_ => ?_)
    · have hqq := if_get hjn (by omega)
      refine lv_iconst (v := iZ 0) hx hb dX10_common_26 rfl ?_
      refine lv_iconst (v := iZ 1) hx hb dX10_common_27 rfl ?_
      refine lv_iconst (v := iZ 0) hx hb dX10_common_28 rfl ?_
      refine va_calli (va_runV (As := [.int (iZ (0)), .int (iZ (1)), .int (iZ (0))]) (rest := []) ⟨hx, hb, hml, hown, hts⟩ (m_bad2 l dC dI cI cZ cII cIII h0 H.size μ8 (0) (1) (0) (by first | assumption | omega | exact ⟨by omega, by omega⟩) (by first | assumption | omega | exact ⟨by omega, by omega⟩) (by first | assumption | omega | exact ⟨by omega, by omega⟩) (by first | assumption | omega | exact ⟨by omega, by omega⟩)) (cwV 3 hts (gV_G k1338 k1340 ks_yX10_bad k13 k1341) rfl rfl rfl (by decide +kernel) ⟨Nat.le_of_ble_eq_true rfl, Nat.le_of_ble_eq_true rfl⟩) ⟨fun a U g mk q => by obtain ⟨q0, q1, qP, qK⟩ := q; exact ⟨q0, q1, qP, va_K.moved (u := U) (U := U.calling g mk a) (Vm.Alike.refl U.vm) qK⟩, va_recv hK hP (ci := 10) (q0 := 0) rfl ((fw_get (by decide)).trans (by rw [mE_obj]; rfl)), fun U hU hW => ⟨rfl, by rw [hU], by rw [hU]; exact hP, va_K.moved hW.alike hK⟩⟩ rfl rfl hl.1 rfl (lv_room (Nat.le_of_ble_eq_true rfl)) dX10_common_29 ⟨Nat.le_of_ble_eq_true rfl, Nat.le_of_ble_eq_true rfl⟩) hS (fun q _ h => fA_le hS.1 q h) (fA_le hS.1) (fun r9 u9 t9 H1 locs ht9 hvm9 hw9 hB9 hz9 hk9 hS => ?_)
      obtain ⟨μ16, r17⟩ := u9
      obtain ⟨hP, -⟩ := hB9
      rw [ht9] at hP
      generalize H1 = H at hP hS ⊢
      obtain ⟨e9, hw9⟩ := hw9
      have e9 : r9 = iZ r17 := e9
      subst e9
      simp only at hP hw9
      have hμ16 := hw9; clear hw9
      have hfr := fr_trans hfr (badP_fr hμ16)
      have hrb := badP_r hμ16
      obtain rfl : r17 = 0 := by omega
      refine fz_if_eq (tgt := 37) (by decide) hx hb dX10_common_32 (by decide) (fun c32_ => ?_) (fun h9 => absurd h9 (by decide))
      have hQ2 := RQ_fr hQ hfr
      obtain ⟨k10, ⟨kT, kTb, kTw⟩, kS3, kPg, kw, kwB, kwT⟩ := hQ2
      have e10k := hfr 0 10 (PS_n (by omega))
      have e9k := hfr 0 9 (PS_n (by omega))
      have e71k := hfr 719 0 (PS_n (by omega))
      have ktk := TR_tok kwT kwB.1 kwB.2.1
      have kt1 := ktk.1
      have kt2 := ktk.2.1
      obtain ⟨p1, p2, p3, pw, pw1, pw2, pw3⟩ := kPg pp.toNat (by omega)
      obtain ⟨r1, r2, r3, rw1, rw2, rw3, rw4⟩ := kPg pq.toNat (by omega)
      have kT1 := kTb.1
      have kT2 := kTb.2.1
      refine lv_aload_n hx hb dX10_common_37 rfl (lv_at hl 0 rfl) ?_
      refine fz_get (D := (dC, dI)) (ci := 10) (v := .ref (h0 + 753)) (C := RX10) (T := TX10) (N := 53) hx hb hts inG10 hown hK hP (k := 0) (by decide) (F := mF h0) mE_obj rfl 32 (by decide) (hts _ k1198) (fun _ h9 => h9) rfl dX10_common_38 ?_
      refine lv_iconst (v := iZ 0) hx hb dX10_common_41 rfl ?_
      refine fz_ald (k := 753) (n := 14) (k2 := (754 + 0 * 261)) hx hb hK hP 3 rfl (by decide) mE_least rfl ⟨by omega, by omega⟩ (by decide) (if_pos (by omega)) dX10_common_42 ?_
      refine lv_astore_n (lv' := [(3, .ref (h0 + (754 + 0 * 261))), (0, .ref h0), (1, .int (iZ (pp))), (2, .int (iZ (pq)))]) hx hb dX10_common_43 rfl hl (by decide) rfl (fun ls hl => ?_)
      refine lv_aload_n hx hb dX10_common_44 rfl (lv_at hl 1 rfl) ?_
      refine fz_get (D := (dC, dI)) (ci := 10) (v := .ref (h0 + 15)) (C := RX10) (T := TX10) (N := 53) hx hb hts inG10 hown hK hP (k := 0) (by decide) (F := mF h0) mE_obj rfl 15 (by decide) (hts _ k1181) (fun _ h9 => h9) rfl dX10_common_45 ?_
      refine lv_iload_n hx hb dX10_common_48 rfl (lv_at hl 2 rfl) ?_
      refine fz_ld (k := 15) (n := 8) hx hb hK hP 0 (by decide) mE_pageLong rfl ⟨by omega, by omega⟩ (by decide) dX10_common_49 ?_
      refine lv_istore (lv' := [(4, .int (iZ (μ16 15 (pp).toNat))), (3, .ref (h0 + (754 + 0 * 261))), (0, .ref h0), (1, .int (iZ (pp))), (2, .int (iZ (pq)))]) hx hb dX10_common_50 hl (by decide) rfl (fun ls hl => ?_)
      refine LX10_common_52 hx hb hml hown hts hK (Nat.le_of_ble_eq_true rfl) (Nat.le_of_ble_eq_true rfl) (Nat.le_of_ble_eq_true rfl) (Nat.le_of_ble_eq_true rfl) (μ16) (pp) (pq) (by omega) (by omega) (by omega) (by omega) (by intro k hk; have := p3 k hk; constructor <;> omega) (by intro k hk; have := r3 k hk; constructor <;> omega) ?_ _ (μ16 15 (pp).toNat) μ16 H locs ls (by omega) (by exact fr_rfl) (by intro a b h1 h2 h3; omega) (Nat.lt_succ_self _) hP hS (lv_sub hl [0, 1, 4, 3, 2] rfl)
      · intro i_18 μ18_ H locs ls q3_18 hP hS hl
        have hl : lv_has ls 6 [(3, .ref (h0 + (754 + 0 * 261)))] := hl
        refine lv_aload_n hx hb dX10_common_180 rfl (lv_at hl 0 rfl) ?_
        refine lv_iconst (v := iZ 0) hx hb dX10_common_181 rfl ?_
        refine fz_ald (k := (754 + 0 * 261)) (n := 260) (k2 := (754 + 0 * 261 + 1 + 0)) hx hb hK hP 2 rfl (by omega) (mE_leastM (by omega)) rfl ⟨by omega, by omega⟩ (by decide) (if_pos (by omega)) dX10_common_182 ?_
        refine lv_iconst (v := iZ 0) hx hb dX10_common_183 rfl ?_
        refine fz_ld (k := (754 + 0 * 261 + 1 + 0)) (n := 62) hx hb hK hP 0 (by omega) (mE_leastR (by omega) (by omega)) rfl ⟨by omega, by omega⟩ (by decide) dX10_common_184 ?_
        rw [show (0 : Int).toNat = 0 from rfl]
        exact W.iret (v := iZ (μ18_ (754 + 0 * 261 + 1 + 0) 0)) hx hb hr (fun t9 ht9 hW9 => ⟨⟨iZ (μ18_ (754 + 0 * 261 + 1 + 0) 0), (μ18_, μ18_ (754 + 0 * 261 + 1 + 0) 0), rfl, ⟨rfl, (by
                        dsimp only
                        have e00 := q3_18 0 0 (by show ¬ (755 ≤ 0 ∧ _); omega)
                        exact ⟨fr_trans hfr (fr_mono q3_18 (fun x y h => by unfold PS; omega)), by omega⟩)⟩, by rw [ht9]; exact hP, va_K.moved hW9.alike hK⟩, hS.F ht9⟩) hS.2.2 dX10_common_185
    · refine lv_iconst (v := iZ 1) hx hb dX10_common_22 rfl ?_
      refine lv_goto (tgt := 27) hx hb dX10_common_23 (by decide) ?_
      refine lv_iconst (v := iZ 1) hx hb dX10_common_27 rfl ?_
      refine lv_iconst (v := iZ 0) hx hb dX10_common_28 rfl ?_
      refine va_calli (va_runV (As := [.int (iZ (1)), .int (iZ (1)), .int (iZ (0))]) (rest := []) ⟨hx, hb, hml, hown, hts⟩ (m_bad2 l dC dI cI cZ cII cIII h0 H.size μ8 (1) (1) (0) (by first | assumption | omega | exact ⟨by omega, by omega⟩) (by first | assumption | omega | exact ⟨by omega, by omega⟩) (by first | assumption | omega | exact ⟨by omega, by omega⟩) (by first | assumption | omega | exact ⟨by omega, by omega⟩)) (cwV 3 hts (gV_G k1338 k1340 ks_yX10_bad k13 k1341) rfl rfl rfl (by decide +kernel) ⟨Nat.le_of_ble_eq_true rfl, Nat.le_of_ble_eq_true rfl⟩) ⟨fun a U g mk q => by obtain ⟨q0, q1, qP, qK⟩ := q; exact ⟨q0, q1, qP, va_K.moved (u := U) (U := U.calling g mk a) (Vm.Alike.refl U.vm) qK⟩, va_recv hK hP (ci := 10) (q0 := 0) rfl ((fw_get (by decide)).trans (by rw [mE_obj]; rfl)), fun U hU hW => ⟨rfl, by rw [hU], by rw [hU]; exact hP, va_K.moved hW.alike hK⟩⟩ rfl rfl hl.1 rfl (lv_room (Nat.le_of_ble_eq_true rfl)) dX10_common_29 ⟨Nat.le_of_ble_eq_true rfl, Nat.le_of_ble_eq_true rfl⟩) hS (fun q _ h => fA_le hS.1 q h) (fA_le hS.1) (fun r9 u9 t9 H1 locs ht9 hvm9 hw9 hB9 hz9 hk9 hS => ?_)
      obtain ⟨μ19, r20⟩ := u9
      obtain ⟨hP, -⟩ := hB9
      rw [ht9] at hP
      generalize H1 = H at hP hS ⊢
      obtain ⟨e9, hw9⟩ := hw9
      have e9 : r9 = iZ r20 := e9
      subst e9
      simp only at hP hw9
      have hμ19 := hw9; clear hw9
      have hfr := fr_trans hfr (badP_fr hμ19)
      have hrb := badP_r hμ19
      obtain rfl : r20 = 1 := by omega
      refine fz_if_eq (tgt := 37) (by decide) hx hb dX10_common_32 (by decide) (fun h9 => absurd h9 (by decide)) (fun c32_ => ?_)
      refine lv_iconst (v := iZ 0) hx hb dX10_common_35 rfl ?_
      exact W.iret (v := iZ (0)) hx hb hr (fun t9 ht9 hW9 => ⟨⟨iZ (0), (μ19, 0), rfl, ⟨rfl, (by
                    dsimp only
                    exact ⟨hfr, by omega⟩)⟩, by rw [ht9]; exact hP, va_K.moved hW9.alike hK⟩, hS.F ht9⟩) hS.2.2 dX10_common_36
set_option maxHeartbeats 4000000 in
set_option maxRecDepth 100000 in
theorem LX10_similar_104 {p : Program} {l : Launch} {e : Env} {R : Room} {s : State} {m : MethodId} {args : Array Value} {below : List Frame} {meth : Method} {c : Code} {cells slots : Nat} {Q : State → Prop} {dC : Nat → ClassId} {dI : Nat → Nat → Nat} {h0 : Nat} {cI cZ cII cIII : ClassId} (hx : p.tables.exec = Jvm.exec) (hb : c.code = cX10_similar) (hml : c.maxLocals = 7) (hown : s.vm.findClass RX10 = some m.cls) (hts : ∀ w ∈ wsG, w.before args s = true) (hK : va_K (dC, dI) vwCl (mT cI cZ cII cIII) s) (hRf : 24 ≤ R.frames) (hRl : 727 ≤ R.locals) (hRc : cells ≤ R.cells) (hRs : slots ≤ R.slots) (μ0 : va_M) (pp : Int) (pq : Int) (n : Int) (wp : Rw) (wq : Rw) (hpp : 0 ≤ pp ∧ pp < 8) (hpq : 0 ≤ pq ∧ pq < 8) (hn : n = rI wp) (hwp : rPage wp) (hwq : rPage wq) (hTp : TR μ0 (17 + pp.toNat) wp) (hTq : TR μ0 (17 + pq.toNat) wq) (hr1 : ∀ m : Nat, m < rI wp → μ0 723 m = rO wp m) (hr2 : ∀ m : Nat, m < rI wq → μ0 738 m = rO wq m) (hexit153 : ∀ (is9 : Int) (k : Int) (μ : va_M) (H : Heap) (locs : List Loc) (ls : Array Slot), (μ = μ0) → (0 ≤ is9 ∧ is9 ≤ 1) → va_P (dC, dI) vwCl (fw (mE cI cZ cII cIII h0) h0 6325 μ) H → va_S (fA h0 6325 s.heap.size) s.heap H locs → lv_has ls 7 [(5, .int (iZ (is9)))] → W p l e R s m args below meth c H locs cells slots Q (F0 m 153 ls [])) :
    ∀ (n9 : Nat) (is9 : Int) (k : Int) (μ : va_M) (H : Heap) (locs : List Loc) (ls : Array Slot), (μ = μ0) → (0 ≤ k ∧ k ≤ n) → (0 ≤ is9 ∧ is9 ≤ 1) → (is9 = 1 → n = rI wq) → (300 - k).toNat < n9 → va_P (dC, dI) vwCl (fw (mE cI cZ cII cIII h0) h0 6325 μ) H → va_S (fA h0 6325 s.heap.size) s.heap H locs → lv_has ls 7 [(6, .int (iZ (k))), (5, .int (iZ (is9))), (3, .int (iZ (n))), (2, .int (iZ (pq))), (1, .int (iZ (pp))), (0, .ref h0)] → W p l e R s m args below meth c H locs cells slots Q (F0 m 104 ls []) := by
  intro n9
  induction n9 with
  | zero => intro is9 k μ H locs ls hm hk hi hb2 hm9 hP hS hl; exact absurd hm9 (Nat.not_lt_zero _)
  | succ n9 ih =>
    intro is9 k μ H locs ls hm hk hi hb2 hm9 hP hS hl
    subst hm
    have bp := rPage_b hwp
    have bq := rPage_b hwq
    refine lv_iload hx hb dX10_similar_104 (lv_at hl 0 rfl) ?_
    refine lv_iload_n hx hb dX10_similar_106 rfl (lv_at hl 2 rfl) ?_
    refine fz_icmp_ge (tgt := 153) (by constructor <;> omega) (by constructor <;> omega) hx hb dX10_similar_107 (by decide) (fun c107_ => ?_) (fun c107_ => ?_)
    · exact hexit153 (is9) (k) μ H locs ls (by rfl) (by exact hi) hP hS (lv_sub hl [1] rfl)
    · refine lv_iload hx hb dX10_similar_110 (lv_at hl 1 rfl) ?_
      refine fz_if_eq (tgt := 153) (by constructor <;> omega) hx hb dX10_similar_112 (by decide) (fun c112_ => ?_) (fun c112_ => ?_)
      · exact hexit153 (is9) (k) μ H locs ls (by rfl) (by exact hi) hP hS (lv_sub hl [1] rfl)
      · have hnq := hb2 (by omega)
        have o1 := hr1 k.toNat (by omega)
        have o2 := hr2 k.toNat (by omega)
        have l1 := rO_lt (w := wp) (k := k.toNat) (by omega)
        have l2 := rO_lt (w := wq) (k := k.toNat) (by omega)
        obtain ⟨kx, vx, wx, aA, aF, aZ, aH, aI⟩ := RA_at wp 0 hTp.2 hwp.1 (rO wp k.toNat) (by omega) (by omega)
        obtain ⟨ky, vy, wy, bA9, bF, bZ, bH, bI⟩ := RA_at wq 0 hTq.2 hwq.1 (rO wq k.toNat) (by omega) (by omega)
        have e1 : (17 + pp).toNat = 17 + pp.toNat := by omega
        have e2 : (17 + pq).toNat = 17 + pq.toNat := by omega
        have hTp9 := hTp
        have hTq9 := hTq
        clear hb2
        refine lv_aload_n hx hb dX10_similar_115 rfl (lv_at hl 5 rfl) ?_
        refine lv_bipush (v := iZ 17) hx hb dX10_similar_116 rfl ?_
        refine lv_iload_n hx hb dX10_similar_118 rfl (lv_at hl 4 rfl) ?_
        refine lv_iadd hx hb dX10_similar_119 ?_
        refine lv_topi (fun x9 ex9 => ?_)
        obtain rfl : x9 = iZ (17 + pp) := ex9.trans (iZ_add _ _)
        refine lv_aload_n hx hb dX10_similar_120 rfl (lv_at hl 5 rfl) ?_
        refine fz_get (D := (dC, dI)) (ci := 10) (v := .ref (h0 + 722)) (C := RX10) (T := TX10) (N := 53) hx hb hts inG10 hown hK hP (k := 0) (by decide) (F := mF h0) mE_obj rfl 29 (by decide) (hts _ k1195) (fun _ h9 => h9) rfl dX10_similar_121 ?_
        refine lv_iconst (v := iZ 0) hx hb dX10_similar_124 rfl ?_
        refine fz_ald (k := 722) (n := 14) (k2 := (723 + 0)) hx hb hK hP 2 rfl (by decide) mE_rowS rfl ⟨by omega, by omega⟩ (by decide) (if_pos (by omega)) dX10_similar_125 ?_
        refine lv_iload hx hb dX10_similar_126 (lv_at hl 0 rfl) ?_
        refine fz_ld (k := (723 + 0)) (n := 260) hx hb hK hP 0 (by omega) (mE_rowSR (by omega)) rfl ⟨by omega, by omega⟩ (by decide) dX10_similar_128 ?_
        rw [show μ (723 + 0) (k).toNat = (rO wp k.toNat : Int) from (by exact o1)]
        refine lv_bipush (v := iZ 17) hx hb dX10_similar_129 rfl ?_
        refine lv_iload_n hx hb dX10_similar_131 rfl (lv_at hl 3 rfl) ?_
        refine lv_iadd hx hb dX10_similar_132 ?_
        refine lv_topi (fun x9 ex9 => ?_)
        obtain rfl : x9 = iZ (17 + pq) := ex9.trans (iZ_add _ _)
        refine lv_aload_n hx hb dX10_similar_133 rfl (lv_at hl 5 rfl) ?_
        refine fz_get (D := (dC, dI)) (ci := 10) (v := .ref (h0 + 737)) (C := RX10) (T := TX10) (N := 53) hx hb hts inG10 hown hK hP (k := 0) (by decide) (F := mF h0) mE_obj rfl 30 (by decide) (hts _ k1196) (fun _ h9 => h9) rfl dX10_similar_134 ?_
        refine lv_iconst (v := iZ 0) hx hb dX10_similar_137 rfl ?_
        refine fz_ald (k := 737) (n := 14) (k2 := (738 + 0)) hx hb hK hP 2 rfl (by decide) mE_rowP rfl ⟨by omega, by omega⟩ (by decide) (if_pos (by omega)) dX10_similar_138 ?_
        refine lv_iload hx hb dX10_similar_139 (lv_at hl 0 rfl) ?_
        refine fz_ld (k := (738 + 0)) (n := 260) hx hb hK hP 0 (by omega) (mE_rowPR (by omega)) rfl ⟨by omega, by omega⟩ (by decide) dX10_similar_141 ?_
        rw [show μ (738 + 0) (k).toNat = (rO wq k.toNat : Int) from (by exact o2)]
        refine va_calli (va_runV (As := [.int (iZ (17 + pp)), .int (iZ ((rO wp k.toNat : Int))), .int (iZ (17 + pq)), .int (iZ ((rO wq k.toNat : Int)))]) (rest := []) ⟨hx, hb, hml, hown, hts⟩ (m_areAlike l dC dI cI cZ cII cIII h0 (20) H.size μ (17 + pp) ((rO wp k.toNat : Int)) (17 + pq) ((rO wq k.toNat : Int)) (kx) (vx) (wx) (ky) (vy) (wy) (by omega) (by omega) (by omega) (by omega) (by rw [e1]; exact aA) (by rw [e2]; exact bA9) (by exact aF) (by exact bF) (by omega)) (cwV 4 hts (gV_G k1393 k1395 ks_yX10_areAlike k13 k1396) rfl rfl rfl (by decide +kernel) ⟨by show 23 + 1 ≤ _; omega, by show 8 + (8 + 11) + (700) ≤ _; omega⟩) ⟨fun a U g mk q => by obtain ⟨q0, q1, qP, qK⟩ := q; exact ⟨q0, q1, qP, va_K.moved (u := U) (U := U.calling g mk a) (Vm.Alike.refl U.vm) qK⟩, va_recv hK hP (ci := 10) (q0 := 0) rfl ((fw_get (by decide)).trans (by rw [mE_obj]; rfl)), fun U hU hW => ⟨rfl, by rw [hU], by rw [hU]; exact hP, va_K.moved hW.alike hK⟩⟩ rfl rfl hl.1 rfl (lv_room (Nat.le_of_ble_eq_true rfl)) dX10_similar_142 ⟨hRc, hRs⟩) hS (fun q _ h => fA_le hS.1 q h) (fA_le hS.1) (fun r9 u9 t9 H1 locs ht9 hvm9 hw9 hB9 hz9 hk9 hS => ?_)
        obtain ⟨μ1, r2⟩ := u9
        obtain ⟨hP, -⟩ := hB9
        rw [ht9] at hP
        generalize H1 = H at hP hS ⊢
        obtain ⟨e9, hw9⟩ := hw9
        have e9 : r9 = iZ r2 := e9
        subst e9
        simp only at hP hw9
        have hμ1 := hw9; clear hw9
        rw [hμ1.1] at hP; have hμ1 := hμ1.2
        refine lv_istore (lv' := [(5, .int (iZ (r2))), (6, .int (iZ (k))), (3, .int (iZ (n))), (2, .int (iZ (pq))), (1, .int (iZ (pp))), (0, .ref h0)]) hx hb dX10_similar_145 hl (by decide) rfl (fun ls hl => ?_)
        refine lv_iinc (v := iZ (k + 1)) (lv' := [(6, .int (iZ (k + 1))), (5, .int (iZ (r2))), (3, .int (iZ (n))), (2, .int (iZ (pq))), (1, .int (iZ (pp))), (0, .ref h0)]) hx hb dX10_similar_147 hl (k := 1) rfl (iZ_add _ _) (by decide) rfl (fun ls hl => ?_)
        refine lv_goto (tgt := 104) hx hb dX10_similar_150 (by decide) ?_
        exact ih (r2) (k + 1) μ H locs ls (by rfl) (by omega) (by omega) (by intro _; exact hnq) (by omega) hP hS (lv_sub hl [0, 1, 2, 3, 4, 5] rfl)
set_option maxHeartbeats 4000000 in
set_option maxRecDepth 100000 in
theorem m_similar (l : Launch) (dC : Nat → ClassId) (dI : Nat → Nat → Nat) (cI cZ cII cIII : ClassId) (h0 sz : Nat) (μ : va_M) (pp : Int) (pq : Int) (hQ : RQ μ) (hp : inR pp) (hq : inR pq) : Met l yX10_similar (Cond.code yX10_similar cX10_similar 7 (some .boolean) :: wsG) ({ frames := 24, cells := 0, slots := 0, locals := 727 } : Room) (va_Pc [.ref h0, .int (iZ (pp)), .int (iZ (pq))] (fun U => U.heap.size = sz ∧ va_P (dC, dI) vwCl (fw (mE cI cZ cII cIII h0) h0 6325 μ) U.heap ∧ va_K (dC, dI) vwCl (mT cI cZ cII cIII) U)) (va_Qi (fun (r9 : Int32) (u : va_M × Int) => r9 = iZ u.2 ∧ (fun (u : va_M) (r : Int) => fr PS μ u ∧ (u 0 0 = 0 ∨ u 0 0 = 1 ∨ u 0 0 = 2)) u.1 u.2) (fun u t => va_P (dC, dI) vwCl (fw (mE cI cZ cII cIII h0) h0 6325 u.1) t.heap ∧ va_K (dC, dI) vwCl (mT cI cZ cII cIII) t) (fA h0 6325 sz)) 0 0 (fA h0 6325 sz) := by
  refine Met.ofW (cc := cX10_similar) (maxL := 7) (ret := (some .boolean)) (by decide) rfl ?_
  intro p e s m args below meth c s₁ B hml hv
  obtain ⟨rfl, hsz, hP, hK⟩ := hv
  have hx := B.exec
  have hb := B.bytes
  have hr := B.returns
  have hts : ∀ w ∈ wsG, w.before _ s = true := hG_of (atoms_spec (ws := (Cond.code yX10_similar cX10_similar 7 (some .boolean) :: wsG)) B.pre)
  have hown : s.vm.findClass RX10 = some m.cls := findClass_of_methodNamed B.named
  have hlocks := B.notSynchronized
  subst hsz
  have hS : va_S (fA h0 6325 s.heap.size) s.heap s.heap [] := va_S.rf
  have hl := lv_entry ([.ref h0, .int (iZ (pp)), .int (iZ (pq))]) (n := 7) (Nat.le_of_ble_eq_true rfl)
  rw [lg_entry_eq]
  generalize (lg_sl ([.ref h0, .int (iZ (pp)), .int (iZ (pq))]) ++ List.replicate (7 - (lg_sl ([.ref h0, .int (iZ (pp)), .int (iZ (pq))])).length) Slot.unset).toArray = ls at hl ⊢
  have hl : lv_has ls 7 [(0, .ref h0), (1, .int (iZ (pp))), (2, .int (iZ (pq)))] := hl
  refine lv_aload_n hx hb dX10_similar_0 rfl (lv_at hl 0 rfl) ?_
  refine lv_iconst (v := iZ 0) hx hb dX10_similar_1 rfl ?_
  refine fz_put (D := (dC, dI)) (ci := 10) (ty := .int) (z := 0) (C := RX10) (T := TX10) (N := 53) hx hb hts inG10 tyX10 tyX10_ok nmX10 hown hK hP fA_in hS (k := 0) (by decide) (F := mF h0) mE_obj rfl 0 (by decide) (hts _ k1166) (fun _ h9 => h9) rfl (by decide +kernel) rfl rfl (fun _ => Nat.le_of_ble_eq_true rfl) (fun _ _ => rfl) dX10_similar_2 (fun H locs hP hS => ?_)
  obtain ⟨μ3, eμ3⟩ : ∃ x : va_M, x = uz μ 0 0 (0) := ⟨_, rfl⟩
  rw [← eμ3] at hP
  have hfr : fr PS μ μ3 := by rw [eμ3]; exact fr_uz fr_rfl (by unfold PS; omega)
  have ht0 : μ3 0 0 = 0 := by rw [eμ3, uz_s]
  have e10 := hfr 0 10 (PS_n (by omega))
  have e9 := hfr 0 9 (PS_n (by omega))
  have e71 := hfr 719 0 (PS_n (by omega))
  have hQ1 := RQ_fr hQ hfr
  have hQc := hQ
  obtain ⟨f10, ⟨fT, fTb, fTw⟩, fS3, fPg, fw9, fwB, fwT⟩ := hQc
  obtain ⟨g10, ⟨gT, gTb, gTw⟩, gS3, gPg, gw, gwB, gwT⟩ := hQ1
  have gtk := TR_tok gwT gwB.1 gwB.2.1
  have gt1 := gtk.1
  have gt2 := gtk.2.1
  refine lv_aload_n hx hb dX10_similar_5 rfl (lv_at hl 0 rfl) ?_
  refine lv_aload_n hx hb dX10_similar_6 rfl (lv_at hl 0 rfl) ?_
  refine lv_iload_n hx hb dX10_similar_7 rfl (lv_at hl 1 rfl) ?_
  refine va_calli (va_runV (As := [.int (iZ (pp))]) (rest := [.ref h0]) ⟨hx, hb, hml, hown, hts⟩ (m_isPage l dC dI cI cZ cII cIII h0 H.size μ3 (pp) (by first | assumption | omega | exact ⟨by omega, by omega⟩) (by first | assumption | omega | exact ⟨by omega, by omega⟩)) (cwV 1 hts (gV_G k1584 k1586 ks_yX10_isPage k13 k1587) rfl rfl rfl (by decide +kernel) ⟨Nat.le_of_ble_eq_true rfl, Nat.le_of_ble_eq_true rfl⟩) ⟨fun a U g mk q => by obtain ⟨q0, q1, qP, qK⟩ := q; exact ⟨q0, q1, qP, va_K.moved (u := U) (U := U.calling g mk a) (Vm.Alike.refl U.vm) qK⟩, va_recv hK hP (ci := 10) (q0 := 0) rfl ((fw_get (by decide)).trans (by rw [mE_obj]; rfl)), fun U hU hW => ⟨rfl, by rw [hU], by rw [hU]; exact hP, va_K.moved hW.alike hK⟩⟩ rfl rfl hl.1 rfl (lv_room (Nat.le_of_ble_eq_true rfl)) dX10_similar_8 ⟨Nat.le_of_ble_eq_true rfl, Nat.le_of_ble_eq_true rfl⟩) hS (fun q _ h => fA_le hS.1 q h) (fA_le hS.1) (fun r9 u9 t9 H1 locs ht9 hvm9 hw9 hB9 hz9 hk9 hS => ?_)
  obtain ⟨μ4, r5⟩ := u9
  obtain ⟨hP, -⟩ := hB9
  rw [ht9] at hP
  generalize H1 = H at hP hS ⊢
  obtain ⟨e9, hw9⟩ := hw9
  have e9 : r9 = iZ r5 := e9
  subst e9
  simp only at hP hw9
  have hμ4 := hw9; clear hw9
  rw [hμ4.1] at hP; have hμ4 := hμ4.2
  have hip := hμ4
  have hip2 := if_01 hμ4
  refine fz_if_eq (tgt := 22) (by constructor <;> omega) hx hb dX10_similar_11 (by decide) (fun c11_ => ?_) (fun c11_ => ?_)
  · refine lv_iconst (v := iZ 1) hx hb dX10_similar_22 rfl ?_
    refine lv_goto (tgt := 27) hx hb dX10_similar_23 (by decide) ?_
    refine lv_iconst (v := iZ 1) hx hb dX10_similar_27 rfl ?_
    refine lv_iconst (v := iZ 0) hx hb dX10_similar_28 rfl ?_
    refine va_calli (va_runV (As := [.int (iZ (1)), .int (iZ (1)), .int (iZ (0))]) (rest := []) ⟨hx, hb, hml, hown, hts⟩ (m_bad2 l dC dI cI cZ cII cIII h0 H.size μ3 (1) (1) (0) (by first | assumption | omega | exact ⟨by omega, by omega⟩) (by first | assumption | omega | exact ⟨by omega, by omega⟩) (by first | assumption | omega | exact ⟨by omega, by omega⟩) (by first | assumption | omega | exact ⟨by omega, by omega⟩)) (cwV 3 hts (gV_G k1338 k1340 ks_yX10_bad k13 k1341) rfl rfl rfl (by decide +kernel) ⟨Nat.le_of_ble_eq_true rfl, Nat.le_of_ble_eq_true rfl⟩) ⟨fun a U g mk q => by obtain ⟨q0, q1, qP, qK⟩ := q; exact ⟨q0, q1, qP, va_K.moved (u := U) (U := U.calling g mk a) (Vm.Alike.refl U.vm) qK⟩, va_recv hK hP (ci := 10) (q0 := 0) rfl ((fw_get (by decide)).trans (by rw [mE_obj]; rfl)), fun U hU hW => ⟨rfl, by rw [hU], by rw [hU]; exact hP, va_K.moved hW.alike hK⟩⟩ rfl rfl hl.1 rfl (lv_room (Nat.le_of_ble_eq_true rfl)) dX10_similar_29 ⟨Nat.le_of_ble_eq_true rfl, Nat.le_of_ble_eq_true rfl⟩) hS (fun q _ h => fA_le hS.1 q h) (fA_le hS.1) (fun r9 u9 t9 H1 locs ht9 hvm9 hw9 hB9 hz9 hk9 hS => ?_)
    obtain ⟨μ6, r7⟩ := u9
    obtain ⟨hP, -⟩ := hB9
    rw [ht9] at hP
    generalize H1 = H at hP hS ⊢
    obtain ⟨e9, hw9⟩ := hw9
    have e9 : r9 = iZ r7 := e9
    subst e9
    simp only at hP hw9
    have hμ6 := hw9; clear hw9
    have hfr := fr_trans hfr (badP_fr hμ6)
    have hrb := badP_r hμ6
    obtain rfl : r7 = 1 := by omega
    refine fz_if_eq (tgt := 37) (by decide) hx hb dX10_similar_32 (by decide) (fun h9 => absurd h9 (by decide)) (fun c32_ => ?_)
    refine lv_iconst (v := iZ 0) hx hb dX10_similar_35 rfl ?_
    exact W.zret (v := iZ (0)) hx hb hr (by decide +kernel) (fun t9 ht9 hW9 => ⟨⟨iZ (0), (μ6, 0), rfl, ⟨rfl, (by
                dsimp only
                exact ⟨hfr, by omega⟩)⟩, by rw [ht9]; exact hP, va_K.moved hW9.alike hK⟩, hS.F ht9⟩) hS.2.2 dX10_similar_36
  · have hpp := if_get hip (by omega)
    refine lv_aload_n hx hb dX10_similar_14 rfl (lv_at hl 0 rfl) ?_
    refine lv_iload_n hx hb dX10_similar_15 rfl (lv_at hl 2 rfl) ?_
    refine va_calli (va_runV (As := [.int (iZ (pq))]) (rest := [.ref h0]) ⟨hx, hb, hml, hown, hts⟩ (m_isPage l dC dI cI cZ cII cIII h0 H.size μ3 (pq) (by first | assumption | omega | exact ⟨by omega, by omega⟩) (by first | assumption | omega | exact ⟨by omega, by omega⟩)) (cwV 1 hts (gV_G k1584 k1586 ks_yX10_isPage k13 k1587) rfl rfl rfl (by decide +kernel) ⟨Nat.le_of_ble_eq_true rfl, Nat.le_of_ble_eq_true rfl⟩) ⟨fun a U g mk q => by obtain ⟨q0, q1, qP, qK⟩ := q; exact ⟨q0, q1, qP, va_K.moved (u := U) (U := U.calling g mk a) (Vm.Alike.refl U.vm) qK⟩, va_recv hK hP (ci := 10) (q0 := 0) rfl ((fw_get (by decide)).trans (by rw [mE_obj]; rfl)), fun U hU hW => ⟨rfl, by rw [hU], by rw [hU]; exact hP, va_K.moved hW.alike hK⟩⟩ rfl rfl hl.1 rfl (lv_room (Nat.le_of_ble_eq_true rfl)) dX10_similar_16 ⟨Nat.le_of_ble_eq_true rfl, Nat.le_of_ble_eq_true rfl⟩) hS (fun q _ h => fA_le hS.1 q h) (fA_le hS.1) (fun r9 u9 t9 H1 locs ht9 hvm9 hw9 hB9 hz9 hk9 hS => ?_)
    obtain ⟨μ8, r10⟩ := u9
    obtain ⟨hP, -⟩ := hB9
    rw [ht9] at hP
    generalize H1 = H at hP hS ⊢
    obtain ⟨e9, hw9⟩ := hw9
    have e9 : r9 = iZ r10 := e9
    subst e9
    simp only at hP hw9
    have hμ8 := hw9; clear hw9
    rw [hμ8.1] at hP; have hμ8 := hμ8.2
    have hjn := hμ8
    have hjn2 := if_01 hμ8
    refine fz_if_ne (tgt := 26) (by constructor <;> omega) hx hb dX10_similar_19 (by decide) (fun c19_ => ?_) (fun c19_ => ?_)
    · have hqq := if_get hjn (by omega)
      refine lv_iconst (v := iZ 0) hx hb dX10_similar_26 rfl ?_
      refine lv_iconst (v := iZ 1) hx hb dX10_similar_27 rfl ?_
      refine lv_iconst (v := iZ 0) hx hb dX10_similar_28 rfl ?_
      refine va_calli (va_runV (As := [.int (iZ (0)), .int (iZ (1)), .int (iZ (0))]) (rest := []) ⟨hx, hb, hml, hown, hts⟩ (m_bad2 l dC dI cI cZ cII cIII h0 H.size μ3 (0) (1) (0) (by first | assumption | omega | exact ⟨by omega, by omega⟩) (by first | assumption | omega | exact ⟨by omega, by omega⟩) (by first | assumption | omega | exact ⟨by omega, by omega⟩) (by first | assumption | omega | exact ⟨by omega, by omega⟩)) (cwV 3 hts (gV_G k1338 k1340 ks_yX10_bad k13 k1341) rfl rfl rfl (by decide +kernel) ⟨Nat.le_of_ble_eq_true rfl, Nat.le_of_ble_eq_true rfl⟩) ⟨fun a U g mk q => by obtain ⟨q0, q1, qP, qK⟩ := q; exact ⟨q0, q1, qP, va_K.moved (u := U) (U := U.calling g mk a) (Vm.Alike.refl U.vm) qK⟩, va_recv hK hP (ci := 10) (q0 := 0) rfl ((fw_get (by decide)).trans (by rw [mE_obj]; rfl)), fun U hU hW => ⟨rfl, by rw [hU], by rw [hU]; exact hP, va_K.moved hW.alike hK⟩⟩ rfl rfl hl.1 rfl (lv_room (Nat.le_of_ble_eq_true rfl)) dX10_similar_29 ⟨Nat.le_of_ble_eq_true rfl, Nat.le_of_ble_eq_true rfl⟩) hS (fun q _ h => fA_le hS.1 q h) (fA_le hS.1) (fun r9 u9 t9 H1 locs ht9 hvm9 hw9 hB9 hz9 hk9 hS => ?_)
      obtain ⟨μ11, r12⟩ := u9
      obtain ⟨hP, -⟩ := hB9
      rw [ht9] at hP
      generalize H1 = H at hP hS ⊢
      obtain ⟨e9, hw9⟩ := hw9
      have e9 : r9 = iZ r12 := e9
      subst e9
      simp only at hP hw9
      have hμ11 := hw9; clear hw9
      have hfr := fr_trans hfr (badP_fr hμ11)
      have hrb := badP_r hμ11
      obtain rfl : r12 = 0 := by omega
      refine fz_if_eq (tgt := 37) (by decide) hx hb dX10_similar_32 (by decide) (fun c32_ => ?_) (fun h9 => absurd h9 (by decide))
      have hQ2 := RQ_fr hQ hfr
      obtain ⟨k10, ⟨kT, kTb, kTw⟩, kS3, kPg, kw, kwB, kwT⟩ := hQ2
      have e10k := hfr 0 10 (PS_n (by omega))
      have e9k := hfr 0 9 (PS_n (by omega))
      have e71k := hfr 719 0 (PS_n (by omega))
      have ktk := TR_tok kwT kwB.1 kwB.2.1
      have kt1 := ktk.1
      have kt2 := ktk.2.1
      obtain ⟨p1, p2, p3, wp, pw1, pw2, pw3⟩ := kPg pp.toNat (by omega)
      obtain ⟨r1, r2, r3, wq, rw2, rw3, rw4⟩ := kPg pq.toNat (by omega)
      have bp := rPage_b pw1
      have bq := rPage_b rw2
      have e1 : (17 + pp).toNat = 17 + pp.toNat := by omega
      have e2 : (17 + pq).toNat = 17 + pq.toNat := by omega
      have np := pw3.1
      have nq := rw4.1
      refine lv_aload_n hx hb dX10_similar_37 rfl (lv_at hl 0 rfl) ?_
      refine lv_bipush (v := iZ 17) hx hb dX10_similar_38 rfl ?_
      refine lv_iload_n hx hb dX10_similar_40 rfl (lv_at hl 1 rfl) ?_
      refine lv_iadd hx hb dX10_similar_41 ?_
      refine lv_topi (fun x9 ex9 => ?_)
      obtain rfl : x9 = iZ (17 + pp) := ex9.trans (iZ_add _ _)
      refine lv_iconst (v := iZ 0) hx hb dX10_similar_42 rfl ?_
      refine lv_aload_n hx hb dX10_similar_43 rfl (lv_at hl 0 rfl) ?_
      refine fz_get (D := (dC, dI)) (ci := 10) (v := .ref (h0 + 719)) (C := RX10) (T := TX10) (N := 53) hx hb hts inG10 hown hK hP (k := 0) (by decide) (F := mF h0) mE_obj rfl 21 (by decide) (hts _ k1187) (fun _ h9 => h9) rfl dX10_similar_44 ?_
      refine lv_bipush (v := iZ 17) hx hb dX10_similar_47 rfl ?_
      refine lv_iload_n hx hb dX10_similar_49 rfl (lv_at hl 1 rfl) ?_
      refine lv_iadd hx hb dX10_similar_50 ?_
      refine lv_topi (fun x9 ex9 => ?_)
      obtain rfl : x9 = iZ (17 + pp) := ex9.trans (iZ_add _ _)
      refine fz_ld (k := 719) (n := 70) hx hb hK hP 0 (by decide) mE_nodes rfl ⟨by omega, by omega⟩ (by decide) dX10_similar_51 ?_
      refine lv_aload_n hx hb dX10_similar_52 rfl (lv_at hl 0 rfl) ?_
      refine fz_get (D := (dC, dI)) (ci := 10) (v := .ref (h0 + 722)) (C := RX10) (T := TX10) (N := 53) hx hb hts inG10 hown hK hP (k := 0) (by decide) (F := mF h0) mE_obj rfl 29 (by decide) (hts _ k1195) (fun _ h9 => h9) rfl dX10_similar_53 ?_
      refine lv_iconst (v := iZ 0) hx hb dX10_similar_56 rfl ?_
      refine fz_ald (k := 722) (n := 14) (k2 := (723 + 0)) hx hb hK hP 2 rfl (by decide) mE_rowS rfl ⟨by omega, by omega⟩ (by decide) (if_pos (by omega)) dX10_similar_57 ?_
      refine va_calli (va_runV (As := [.int (iZ (17 + pp)), .int (iZ (0)), .int (iZ (μ11 719 (17 + pp).toNat)), .ref (h0 + (723 + 0))]) (rest := []) ⟨hx, hb, hml, hown, hts⟩ (m_lists l dC dI cI cZ cII cIII h0 H.size μ11 (17 + pp) (0) (μ11 719 (17 + pp).toNat) ((723 + 0)) (wp) (by first | assumption | omega | exact ⟨by omega, by omega⟩) (by rw [e1]; omega) (by rw [e1]; omega) (by rw [e1]; exact pw3.2) (by exact Or.inl (by decide)) (by omega)) (cwV 4 hts (gV_G k1385 k1387 ks_yX10_lists k13 k1388) rfl rfl rfl (by decide +kernel) ⟨Nat.le_of_ble_eq_true rfl, Nat.le_of_ble_eq_true rfl⟩) ⟨fun a U g mk q => by obtain ⟨q0, q1, qP, qK⟩ := q; exact ⟨q0, q1, qP, va_K.moved (u := U) (U := U.calling g mk a) (Vm.Alike.refl U.vm) qK⟩, va_recv hK hP (ci := 10) (q0 := 0) rfl ((fw_get (by decide)).trans (by rw [mE_obj]; rfl)), fun U hU hW => ⟨rfl, by rw [hU], by rw [hU]; exact hP, va_K.moved hW.alike hK⟩⟩ rfl rfl hl.1 rfl (lv_room (Nat.le_of_ble_eq_true rfl)) dX10_similar_58 ⟨Nat.le_of_ble_eq_true rfl, Nat.le_of_ble_eq_true rfl⟩) hS (fun q _ h => fA_le hS.1 q h) (fA_le hS.1) (fun r9 u9 t9 H1 locs ht9 hvm9 hw9 hB9 hz9 hk9 hS => ?_)
      obtain ⟨μa, na⟩ := u9
      obtain ⟨hP, -⟩ := hB9
      rw [ht9] at hP
      generalize H1 = H at hP hS ⊢
      obtain ⟨e9, hw9⟩ := hw9
      have e9 : r9 = iZ na := e9
      subst e9
      simp only at hP hw9
      have hμa := hw9; clear hw9
      obtain ⟨a1, a2, a3⟩ := hμa
      have fa := fr_mono (P2 := PS) a3 (fun x y h => by unfold PS; omega)
      have nqa := fa 719 (17 + pq.toNat) (PS_n (by omega))
      refine lv_istore_n (lv' := [(3, .int (iZ (na))), (0, .ref h0), (1, .int (iZ (pp))), (2, .int (iZ (pq)))]) hx hb dX10_similar_61 rfl hl (by decide) rfl (fun ls hl => ?_)
      refine lv_aload_n hx hb dX10_similar_62 rfl (lv_at hl 1 rfl) ?_
      refine lv_bipush (v := iZ 17) hx hb dX10_similar_63 rfl ?_
      refine lv_iload_n hx hb dX10_similar_65 rfl (lv_at hl 3 rfl) ?_
      refine lv_iadd hx hb dX10_similar_66 ?_
      refine lv_topi (fun x9 ex9 => ?_)
      obtain rfl : x9 = iZ (17 + pq) := ex9.trans (iZ_add _ _)
      refine lv_iconst (v := iZ 0) hx hb dX10_similar_67 rfl ?_
      refine lv_aload_n hx hb dX10_similar_68 rfl (lv_at hl 1 rfl) ?_
      refine fz_get (D := (dC, dI)) (ci := 10) (v := .ref (h0 + 719)) (C := RX10) (T := TX10) (N := 53) hx hb hts inG10 hown hK hP (k := 0) (by decide) (F := mF h0) mE_obj rfl 21 (by decide) (hts _ k1187) (fun _ h9 => h9) rfl dX10_similar_69 ?_
      refine lv_bipush (v := iZ 17) hx hb dX10_similar_72 rfl ?_
      refine lv_iload_n hx hb dX10_similar_74 rfl (lv_at hl 3 rfl) ?_
      refine lv_iadd hx hb dX10_similar_75 ?_
      refine lv_topi (fun x9 ex9 => ?_)
      obtain rfl : x9 = iZ (17 + pq) := ex9.trans (iZ_add _ _)
      refine fz_ld (k := 719) (n := 70) hx hb hK hP 0 (by decide) mE_nodes rfl ⟨by omega, by omega⟩ (by decide) dX10_similar_76 ?_
      refine lv_aload_n hx hb dX10_similar_77 rfl (lv_at hl 1 rfl) ?_
      refine fz_get (D := (dC, dI)) (ci := 10) (v := .ref (h0 + 737)) (C := RX10) (T := TX10) (N := 53) hx hb hts inG10 hown hK hP (k := 0) (by decide) (F := mF h0) mE_obj rfl 30 (by decide) (hts _ k1196) (fun _ h9 => h9) rfl dX10_similar_78 ?_
      refine lv_iconst (v := iZ 0) hx hb dX10_similar_81 rfl ?_
      refine fz_ald (k := 737) (n := 14) (k2 := (738 + 0)) hx hb hK hP 2 rfl (by decide) mE_rowP rfl ⟨by omega, by omega⟩ (by decide) (if_pos (by omega)) dX10_similar_82 ?_
      refine va_calli (va_runV (As := [.int (iZ (17 + pq)), .int (iZ (0)), .int (iZ (μa 719 (17 + pq).toNat)), .ref (h0 + (738 + 0))]) (rest := []) ⟨hx, hb, hml, hown, hts⟩ (m_lists l dC dI cI cZ cII cIII h0 H.size μa (17 + pq) (0) (μa 719 (17 + pq).toNat) ((738 + 0)) (wq) (by first | assumption | omega | exact ⟨by omega, by omega⟩) (by rw [e2]; omega) (by rw [e2]; omega) (by rw [e2]; exact (TR_PS rw4 fa (by omega)).2) (by exact Or.inr (by decide)) (by omega)) (cwV 4 hts (gV_G k1385 k1387 ks_yX10_lists k13 k1388) rfl rfl rfl (by decide +kernel) ⟨Nat.le_of_ble_eq_true rfl, Nat.le_of_ble_eq_true rfl⟩) ⟨fun a U g mk q => by obtain ⟨q0, q1, qP, qK⟩ := q; exact ⟨q0, q1, qP, va_K.moved (u := U) (U := U.calling g mk a) (Vm.Alike.refl U.vm) qK⟩, va_recv hK hP (ci := 10) (q0 := 0) rfl ((fw_get (by decide)).trans (by rw [mE_obj]; rfl)), fun U hU hW => ⟨rfl, by rw [hU], by rw [hU]; exact hP, va_K.moved hW.alike hK⟩⟩ rfl rfl hl.1 rfl (lv_room (Nat.le_of_ble_eq_true rfl)) dX10_similar_83 ⟨Nat.le_of_ble_eq_true rfl, Nat.le_of_ble_eq_true rfl⟩) hS (fun q _ h => fA_le hS.1 q h) (fA_le hS.1) (fun r9 u9 t9 H1 locs ht9 hvm9 hw9 hB9 hz9 hk9 hS => ?_)
      obtain ⟨μb, nb⟩ := u9
      obtain ⟨hP, -⟩ := hB9
      rw [ht9] at hP
      generalize H1 = H at hP hS ⊢
      obtain ⟨e9, hw9⟩ := hw9
      have e9 : r9 = iZ nb := e9
      subst e9
      simp only at hP hw9
      have hμb := hw9; clear hw9
      obtain ⟨b1, b2, b3⟩ := hμb
      have fb := fr_mono (P2 := PS) b3 (fun x y h => by unfold PS; omega)
      refine lv_istore (lv' := [(4, .int (iZ (nb))), (3, .int (iZ (na))), (0, .ref h0), (1, .int (iZ (pp))), (2, .int (iZ (pq)))]) hx hb dX10_similar_86 hl (by decide) rfl (fun ls hl => ?_)
      refine lv_iload_n hx hb dX10_similar_88 rfl (lv_at hl 1 rfl) ?_
      refine lv_iload hx hb dX10_similar_89 (lv_at hl 0 rfl) ?_
      refine fz_icmp_ne (tgt := 98) (by constructor <;> omega) (by constructor <;> omega) hx hb dX10_similar_91 (by decide) (fun c91_ => ?_) (fun c91_ => ?_)
      · refine lv_iconst (v := iZ 0) hx hb dX10_similar_98 rfl ?_
        refine lv_istore (lv' := [(5, .int (iZ (0))), (4, .int (iZ (nb))), (3, .int (iZ (na))), (0, .ref h0), (1, .int (iZ (pp))), (2, .int (iZ (pq)))]) hx hb dX10_similar_99 hl (by decide) rfl (fun ls hl => ?_)
        refine lv_iconst (v := iZ 0) hx hb dX10_similar_101 rfl ?_
        refine lv_istore (lv' := [(6, .int (iZ (0))), (5, .int (iZ (0))), (4, .int (iZ (nb))), (3, .int (iZ (na))), (0, .ref h0), (1, .int (iZ (pp))), (2, .int (iZ (pq)))]) hx hb dX10_similar_102 hl (by decide) rfl (fun ls hl => ?_)
        refine LX10_similar_104 hx hb hml hown hts hK (Nat.le_of_ble_eq_true rfl) (Nat.le_of_ble_eq_true rfl) (Nat.le_of_ble_eq_true rfl) (Nat.le_of_ble_eq_true rfl) (μb) (pp) (pq) (na) (wp) (wq) (by omega) (by omega) (by exact a1) (by assumption) (by assumption) (by exact TR_PS (TR_PS pw3 fa (by omega)) fb (by omega)) (by exact TR_PS (TR_PS rw4 fa (by omega)) fb (by omega)) (by intro m hm; rw [b3 723 m (by show ¬ (723 = 738); decide)]; have h9 : μa 723 m = 0 + (rO wp m : Int) := a2 m hm; omega) (by intro m hm; have h9 : μb 738 m = 0 + (rO wq m : Int) := b2 m hm; omega) ?_ _ (0) (0) μb H locs ls (by rfl) (by omega) (by omega) (by intro h; omega) (Nat.lt_succ_self _) hP hS (lv_sub hl [0, 1, 3, 6, 5, 4] rfl)
        · intro is9_13 k_13 μ13_ H locs ls q1_13 q2_13 hP hS hl
          have hl : lv_has ls 7 [(5, .int (iZ (is9_13)))] := hl
          refine lv_iload hx hb dX10_similar_153 (lv_at hl 0 rfl) ?_
          exact W.zret (v := iZ (is9_13)) hx hb hr (by exact fz_narZ (by omega)) (fun t9 ht9 hW9 => ⟨⟨iZ (is9_13), (μ13_, is9_13), rfl, ⟨rfl, (by
                            dsimp only
                            rw [q1_13]
                            have ff := fr_trans hfr (fr_trans fa fb)
                            have e00 := a3 0 0 (by show ¬ (0 = 723); decide)
                            have e01 := b3 0 0 (by show ¬ (0 = 738); decide)
                            exact ⟨ff, by omega⟩)⟩, by rw [ht9]; exact hP, va_K.moved hW9.alike hK⟩, hS.F ht9⟩) hS.2.2 dX10_similar_155
      · refine lv_iconst (v := iZ 1) hx hb dX10_similar_94 rfl ?_
        refine lv_goto (tgt := 99) hx hb dX10_similar_95 (by decide) ?_
        refine lv_istore (lv' := [(5, .int (iZ (1))), (4, .int (iZ (nb))), (3, .int (iZ (na))), (0, .ref h0), (1, .int (iZ (pp))), (2, .int (iZ (pq)))]) hx hb dX10_similar_99 hl (by decide) rfl (fun ls hl => ?_)
        refine lv_iconst (v := iZ 0) hx hb dX10_similar_101 rfl ?_
        refine lv_istore (lv' := [(6, .int (iZ (0))), (5, .int (iZ (1))), (4, .int (iZ (nb))), (3, .int (iZ (na))), (0, .ref h0), (1, .int (iZ (pp))), (2, .int (iZ (pq)))]) hx hb dX10_similar_102 hl (by decide) rfl (fun ls hl => ?_)
        refine LX10_similar_104 hx hb hml hown hts hK (Nat.le_of_ble_eq_true rfl) (Nat.le_of_ble_eq_true rfl) (Nat.le_of_ble_eq_true rfl) (Nat.le_of_ble_eq_true rfl) (μb) (pp) (pq) (na) (wp) (wq) (by omega) (by omega) (by exact a1) (by assumption) (by assumption) (by exact TR_PS (TR_PS pw3 fa (by omega)) fb (by omega)) (by exact TR_PS (TR_PS rw4 fa (by omega)) fb (by omega)) (by intro m hm; rw [b3 723 m (by show ¬ (723 = 738); decide)]; have h9 : μa 723 m = 0 + (rO wp m : Int) := a2 m hm; omega) (by intro m hm; have h9 : μb 738 m = 0 + (rO wq m : Int) := b2 m hm; omega) ?_ _ (1) (0) μb H locs ls (by rfl) (by omega) (by omega) (by intro h; omega) (Nat.lt_succ_self _) hP hS (lv_sub hl [0, 1, 3, 6, 5, 4] rfl)
        · intro is9_14 k_14 μ14_ H locs ls q1_14 q2_14 hP hS hl
          have hl : lv_has ls 7 [(5, .int (iZ (is9_14)))] := hl
          refine lv_iload hx hb dX10_similar_153 (lv_at hl 0 rfl) ?_
          exact W.zret (v := iZ (is9_14)) hx hb hr (by exact fz_narZ (by omega)) (fun t9 ht9 hW9 => ⟨⟨iZ (is9_14), (μ14_, is9_14), rfl, ⟨rfl, (by
                            dsimp only
                            rw [q1_14]
                            have ff := fr_trans hfr (fr_trans fa fb)
                            have e00 := a3 0 0 (by show ¬ (0 = 723); decide)
                            have e01 := b3 0 0 (by show ¬ (0 = 738); decide)
                            exact ⟨ff, by omega⟩)⟩, by rw [ht9]; exact hP, va_K.moved hW9.alike hK⟩, hS.F ht9⟩) hS.2.2 dX10_similar_155
    · refine lv_iconst (v := iZ 1) hx hb dX10_similar_22 rfl ?_
      refine lv_goto (tgt := 27) hx hb dX10_similar_23 (by decide) ?_
      refine lv_iconst (v := iZ 1) hx hb dX10_similar_27 rfl ?_
      refine lv_iconst (v := iZ 0) hx hb dX10_similar_28 rfl ?_
      refine va_calli (va_runV (As := [.int (iZ (1)), .int (iZ (1)), .int (iZ (0))]) (rest := []) ⟨hx, hb, hml, hown, hts⟩ (m_bad2 l dC dI cI cZ cII cIII h0 H.size μ3 (1) (1) (0) (by first | assumption | omega | exact ⟨by omega, by omega⟩) (by first | assumption | omega | exact ⟨by omega, by omega⟩) (by first | assumption | omega | exact ⟨by omega, by omega⟩) (by first | assumption | omega | exact ⟨by omega, by omega⟩)) (cwV 3 hts (gV_G k1338 k1340 ks_yX10_bad k13 k1341) rfl rfl rfl (by decide +kernel) ⟨Nat.le_of_ble_eq_true rfl, Nat.le_of_ble_eq_true rfl⟩) ⟨fun a U g mk q => by obtain ⟨q0, q1, qP, qK⟩ := q; exact ⟨q0, q1, qP, va_K.moved (u := U) (U := U.calling g mk a) (Vm.Alike.refl U.vm) qK⟩, va_recv hK hP (ci := 10) (q0 := 0) rfl ((fw_get (by decide)).trans (by rw [mE_obj]; rfl)), fun U hU hW => ⟨rfl, by rw [hU], by rw [hU]; exact hP, va_K.moved hW.alike hK⟩⟩ rfl rfl hl.1 rfl (lv_room (Nat.le_of_ble_eq_true rfl)) dX10_similar_29 ⟨Nat.le_of_ble_eq_true rfl, Nat.le_of_ble_eq_true rfl⟩) hS (fun q _ h => fA_le hS.1 q h) (fA_le hS.1) (fun r9 u9 t9 H1 locs ht9 hvm9 hw9 hB9 hz9 hk9 hS => ?_)
      obtain ⟨μ15, r16⟩ := u9
      obtain ⟨hP, -⟩ := hB9
      rw [ht9] at hP
      generalize H1 = H at hP hS ⊢
      obtain ⟨e9, hw9⟩ := hw9
      have e9 : r9 = iZ r16 := e9
      subst e9
      simp only at hP hw9
      have hμ15 := hw9; clear hw9
      have hfr := fr_trans hfr (badP_fr hμ15)
      have hrb := badP_r hμ15
      obtain rfl : r16 = 1 := by omega
      refine fz_if_eq (tgt := 37) (by decide) hx hb dX10_similar_32 (by decide) (fun h9 => absurd h9 (by decide)) (fun c32_ => ?_)
      refine lv_iconst (v := iZ 0) hx hb dX10_similar_35 rfl ?_
      exact W.zret (v := iZ (0)) hx hb hr (by decide +kernel) (fun t9 ht9 hW9 => ⟨⟨iZ (0), (μ15, 0), rfl, ⟨rfl, (by
                    dsimp only
                    exact ⟨hfr, by omega⟩)⟩, by rw [ht9]; exact hP, va_K.moved hW9.alike hK⟩, hS.F ht9⟩) hS.2.2 dX10_similar_36

set_option maxRecDepth 100000 in
theorem k817 : (Cond.methodLink "PageSkeleton$Layer" (106 : Nat) ({ cls := "PageSkeleton$Row", name := "empty", desc := "()V" } : MethodName)) ∈ wsG := wsG_a4 97 rfl rfl
set_option maxRecDepth 100000 in
theorem k818 : (Cond.constant "PageSkeleton$Layer" (109 : Nat) (1000000 : Int32)) ∈ wsG := wsG_a4 98 rfl rfl
set_option maxRecDepth 100000 in
theorem k820 : (Cond.methodLink "PageSkeleton$Layer" (114 : Nat) ({ cls := "PageSkeleton$Layer", name := "leaveOut", desc := "(LPageSkeleton$Row;LPageSkeleton$Row;ILPageSkeleton$Row;)V" } : MethodName)) ∈ wsG := wsG_a4 100 rfl rfl
set_option maxRecDepth 100000 in
theorem k822 : (Cond.instanceMethod ({ cls := "PageSkeleton$Layer", name := "leaveOut", desc := "(LPageSkeleton$Row;LPageSkeleton$Row;ILPageSkeleton$Row;)V" } : MethodName)) ∈ wsG := wsG_a4 102 rfl rfl
set_option maxRecDepth 100000 in
theorem k823 : (Cond.code ({ cls := "PageSkeleton$Layer", name := "leaveOut", desc := "(LPageSkeleton$Row;LPageSkeleton$Row;ILPageSkeleton$Row;)V" } : MethodName) prog_2_method_10_code (8 : Nat) (Option.none : Option Jvm.ClassFile.FieldType)) ∈ wsG := wsG_a4 103 rfl rfl
set_option maxRecDepth 100000 in
theorem k828 : (Cond.methodLink "PageSkeleton$Layer" (118 : Nat) ({ cls := "PageSkeleton$Layer", name := "fuseNext", desc := "(LPageSkeleton$Row;LPageSkeleton$Row;ILPageSkeleton$Row;)V" } : MethodName)) ∈ wsG := wsG_a4 108 rfl rfl
set_option maxRecDepth 100000 in
theorem k830 : (Cond.instanceMethod ({ cls := "PageSkeleton$Layer", name := "fuseNext", desc := "(LPageSkeleton$Row;LPageSkeleton$Row;ILPageSkeleton$Row;)V" } : MethodName)) ∈ wsG := wsG_a4 110 rfl rfl
set_option maxRecDepth 100000 in
theorem k831 : (Cond.code ({ cls := "PageSkeleton$Layer", name := "fuseNext", desc := "(LPageSkeleton$Row;LPageSkeleton$Row;ILPageSkeleton$Row;)V" } : MethodName) prog_2_method_11_code (6 : Nat) (Option.none : Option Jvm.ClassFile.FieldType)) ∈ wsG := wsG_a4 111 rfl rfl
set_option maxRecDepth 100000 in
theorem k832 : (Cond.methodLink "PageSkeleton$Layer" (128 : Nat) ({ cls := "PageSkeleton$Layer", name := "putFused", desc := "(LPageSkeleton$Row;ILPageSkeleton$Row;IIILPageSkeleton$Row;)V" } : MethodName)) ∈ wsG := wsG_a4 112 rfl rfl
set_option maxRecDepth 100000 in
theorem k833 : (Cond.static ({ cls := "PageSkeleton$Layer", name := "putFused", desc := "(LPageSkeleton$Row;ILPageSkeleton$Row;IIILPageSkeleton$Row;)V" } : MethodName)) ∈ wsG := wsG_a4 113 rfl rfl
set_option maxRecDepth 100000 in
theorem k834 : (Cond.code ({ cls := "PageSkeleton$Layer", name := "putFused", desc := "(LPageSkeleton$Row;ILPageSkeleton$Row;IIILPageSkeleton$Row;)V" } : MethodName) prog_2_method_12_code (8 : Nat) (Option.none : Option Jvm.ClassFile.FieldType)) ∈ wsG := wsG_a4 114 rfl rfl
set_option maxRecDepth 100000 in
theorem k836 : (Cond.methodLink "PageSkeleton$Layer" (121 : Nat) ({ cls := "PageSkeleton$Row", name := "seal", desc := "()V" } : MethodName)) ∈ wsG := wsG_a4 116 rfl rfl
set_option maxRecDepth 100000 in
theorem ks_yX0_leaveOut : Cond.selects RX0 yX0_leaveOut yX0_leaveOut ∈ wsG := wsG_p 29 rfl rfl
set_option maxRecDepth 100000 in
theorem ks_yX0_fuseNext : Cond.selects RX0 yX0_fuseNext yX0_fuseNext ∈ wsG := wsG_p 30 rfl rfl
theorem dX0_build_0 : decode cX0_build 0 = .ok (.aload_n 3, 1) := by decide +kernel
theorem dX0_build_1 : decode cX0_build 1 = .ok (.invokevirtual 106, 3) := by decide +kernel
theorem dX0_build_4 : decode cX0_build 4 = .ok (.aload_n 0, 1) := by decide +kernel
theorem dX0_build_5 : decode cX0_build 5 = .ok (.iconst 0, 1) := by decide +kernel
theorem dX0_build_6 : decode cX0_build 6 = .ok (.putfield 26, 3) := by decide +kernel
theorem dX0_build_9 : decode cX0_build 9 = .ok (.aload_n 0, 1) := by decide +kernel
theorem dX0_build_10 : decode cX0_build 10 = .ok (.iconst 0, 1) := by decide +kernel
theorem dX0_build_11 : decode cX0_build 11 = .ok (.putfield 29, 3) := by decide +kernel
theorem dX0_build_14 : decode cX0_build 14 = .ok (.aload_n 0, 1) := by decide +kernel
theorem dX0_build_15 : decode cX0_build 15 = .ok (.iconst 0, 1) := by decide +kernel
theorem dX0_build_16 : decode cX0_build 16 = .ok (.putfield 32, 3) := by decide +kernel
theorem dX0_build_19 : decode cX0_build 19 = .ok (.iconst 0, 1) := by decide +kernel
theorem dX0_build_20 : decode cX0_build 20 = .ok (.istore 4, 2) := by decide +kernel
theorem dX0_build_22 : decode cX0_build 22 = .ok (.iload 4, 2) := by decide +kernel
theorem dX0_build_24 : decode cX0_build 24 = .ok (.ldc 109, 2) := by decide +kernel
theorem dX0_build_26 : decode cX0_build 26 = .ok (.if_icmp .ge 139, 3) := by decide +kernel
theorem dX0_build_29 : decode cX0_build 29 = .ok (.aload_n 0, 1) := by decide +kernel
theorem dX0_build_30 : decode cX0_build 30 = .ok (.getfield 26, 3) := by decide +kernel
theorem dX0_build_33 : decode cX0_build 33 = .ok (.aload_n 1, 1) := by decide +kernel
theorem dX0_build_34 : decode cX0_build 34 = .ok (.getfield 35, 3) := by decide +kernel
theorem dX0_build_37 : decode cX0_build 37 = .ok (.if_icmp .lt 14, 3) := by decide +kernel
theorem dX0_build_40 : decode cX0_build 40 = .ok (.aload_n 0, 1) := by decide +kernel
theorem dX0_build_41 : decode cX0_build 41 = .ok (.getfield 29, 3) := by decide +kernel
theorem dX0_build_44 : decode cX0_build 44 = .ok (.aload_n 2, 1) := by decide +kernel
theorem dX0_build_45 : decode cX0_build 45 = .ok (.getfield 35, 3) := by decide +kernel
theorem dX0_build_48 : decode cX0_build 48 = .ok (.if_icmp .ge 117, 3) := by decide +kernel
theorem dX0_build_51 : decode cX0_build 51 = .ok (.aload_n 0, 1) := by decide +kernel
theorem dX0_build_52 : decode cX0_build 52 = .ok (.getfield 10, 3) := by decide +kernel
theorem dX0_build_55 : decode cX0_build 55 = .ok (.aload_n 0, 1) := by decide +kernel
theorem dX0_build_56 : decode cX0_build 56 = .ok (.getfield 26, 3) := by decide +kernel
theorem dX0_build_59 : decode cX0_build 59 = .ok (.aload_n 0, 1) := by decide +kernel
theorem dX0_build_60 : decode cX0_build 60 = .ok (.getfield 22, 3) := by decide +kernel
theorem dX0_build_63 : decode cX0_build 63 = .ok (.imul, 1) := by decide +kernel
theorem dX0_build_64 : decode cX0_build 64 = .ok (.aload_n 0, 1) := by decide +kernel
theorem dX0_build_65 : decode cX0_build 65 = .ok (.getfield 29, 3) := by decide +kernel
theorem dX0_build_68 : decode cX0_build 68 = .ok (.iadd, 1) := by decide +kernel
theorem dX0_build_69 : decode cX0_build 69 = .ok (.iaload, 1) := by decide +kernel
theorem dX0_build_70 : decode cX0_build 70 = .ok (.iconst 1, 1) := by decide +kernel
theorem dX0_build_71 : decode cX0_build 71 = .ok (.ishr, 1) := by decide +kernel
theorem dX0_build_72 : decode cX0_build 72 = .ok (.bipush 7, 2) := by decide +kernel
theorem dX0_build_74 : decode cX0_build 74 = .ok (.iand, 1) := by decide +kernel
theorem dX0_build_75 : decode cX0_build 75 = .ok (.istore 5, 2) := by decide +kernel
theorem dX0_build_77 : decode cX0_build 77 = .ok (.aload_n 0, 1) := by decide +kernel
theorem dX0_build_78 : decode cX0_build 78 = .ok (.getfield 32, 3) := by decide +kernel
theorem dX0_build_81 : decode cX0_build 81 = .ok (.ifCond .eq 45, 3) := by decide +kernel
theorem dX0_build_84 : decode cX0_build 84 = .ok (.iload 5, 2) := by decide +kernel
theorem dX0_build_86 : decode cX0_build 86 = .ok (.aload_n 0, 1) := by decide +kernel
theorem dX0_build_87 : decode cX0_build 87 = .ok (.getfield 32, 3) := by decide +kernel
theorem dX0_build_90 : decode cX0_build 90 = .ok (.if_icmp .ne 24, 3) := by decide +kernel
theorem dX0_build_93 : decode cX0_build 93 = .ok (.iload 5, 2) := by decide +kernel
theorem dX0_build_95 : decode cX0_build 95 = .ok (.iconst 4, 1) := by decide +kernel
theorem dX0_build_96 : decode cX0_build 96 = .ok (.if_icmp .ne 30, 3) := by decide +kernel
theorem dX0_build_99 : decode cX0_build 99 = .ok (.aload_n 1, 1) := by decide +kernel
theorem dX0_build_100 : decode cX0_build 100 = .ok (.getfield 48, 3) := by decide +kernel
theorem dX0_build_103 : decode cX0_build 103 = .ok (.aload_n 0, 1) := by decide +kernel
theorem dX0_build_104 : decode cX0_build 104 = .ok (.getfield 26, 3) := by decide +kernel
theorem dX0_build_107 : decode cX0_build 107 = .ok (.iaload, 1) := by decide +kernel
theorem dX0_build_108 : decode cX0_build 108 = .ok (.sipush 513, 3) := by decide +kernel
theorem dX0_build_111 : decode cX0_build 111 = .ok (.if_icmp .ne 15, 3) := by decide +kernel
theorem dX0_build_114 : decode cX0_build 114 = .ok (.aload_n 3, 1) := by decide +kernel
theorem dX0_build_115 : decode cX0_build 115 = .ok (.sipush 515, 3) := by decide +kernel
theorem dX0_build_118 : decode cX0_build 118 = .ok (.invokevirtual 110, 3) := by decide +kernel
theorem dX0_build_121 : decode cX0_build 121 = .ok (.aload_n 0, 1) := by decide +kernel
theorem dX0_build_122 : decode cX0_build 122 = .ok (.iconst 0, 1) := by decide +kernel
theorem dX0_build_123 : decode cX0_build 123 = .ok (.putfield 32, 3) := by decide +kernel
theorem dX0_build_126 : decode cX0_build 126 = .ok (.iload 5, 2) := by decide +kernel
theorem dX0_build_128 : decode cX0_build 128 = .ok (.iconst 4, 1) := by decide +kernel
theorem dX0_build_129 : decode cX0_build 129 = .ok (.if_icmp .eq 9, 3) := by decide +kernel
theorem dX0_build_132 : decode cX0_build 132 = .ok (.iload 5, 2) := by decide +kernel
theorem dX0_build_134 : decode cX0_build 134 = .ok (.iconst 5, 1) := by decide +kernel
theorem dX0_build_135 : decode cX0_build 135 = .ok (.if_icmp .ne 15, 3) := by decide +kernel
theorem dX0_build_138 : decode cX0_build 138 = .ok (.aload_n 0, 1) := by decide +kernel
theorem dX0_build_139 : decode cX0_build 139 = .ok (.aload_n 1, 1) := by decide +kernel
theorem dX0_build_140 : decode cX0_build 140 = .ok (.aload_n 2, 1) := by decide +kernel
theorem dX0_build_141 : decode cX0_build 141 = .ok (.iload 5, 2) := by decide +kernel
theorem dX0_build_143 : decode cX0_build 143 = .ok (.aload_n 3, 1) := by decide +kernel
theorem dX0_build_144 : decode cX0_build 144 = .ok (.invokevirtual 114, 3) := by decide +kernel
theorem dX0_build_147 : decode cX0_build 147 = .ok (.goto 12, 3) := by decide +kernel
theorem dX0_build_150 : decode cX0_build 150 = .ok (.aload_n 0, 1) := by decide +kernel
theorem dX0_build_151 : decode cX0_build 151 = .ok (.aload_n 1, 1) := by decide +kernel
theorem dX0_build_152 : decode cX0_build 152 = .ok (.aload_n 2, 1) := by decide +kernel
theorem dX0_build_153 : decode cX0_build 153 = .ok (.iload 5, 2) := by decide +kernel
theorem dX0_build_155 : decode cX0_build 155 = .ok (.aload_n 3, 1) := by decide +kernel
theorem dX0_build_156 : decode cX0_build 156 = .ok (.invokevirtual 118, 3) := by decide +kernel
theorem dX0_build_159 : decode cX0_build 159 = .ok (.iinc 4 1, 3) := by decide +kernel
theorem dX0_build_162 : decode cX0_build 162 = .ok (.goto (-140), 3) := by decide +kernel
theorem dX0_build_165 : decode cX0_build 165 = .ok (.aload_n 0, 1) := by decide +kernel
theorem dX0_build_166 : decode cX0_build 166 = .ok (.getfield 32, 3) := by decide +kernel
theorem dX0_build_169 : decode cX0_build 169 = .ok (.ifCond .eq 10, 3) := by decide +kernel
theorem dX0_build_172 : decode cX0_build 172 = .ok (.aload_n 3, 1) := by decide +kernel
theorem dX0_build_173 : decode cX0_build 173 = .ok (.sipush 515, 3) := by decide +kernel
theorem dX0_build_176 : decode cX0_build 176 = .ok (.invokevirtual 110, 3) := by decide +kernel
theorem dX0_build_179 : decode cX0_build 179 = .ok (.aload_n 3, 1) := by decide +kernel
theorem dX0_build_180 : decode cX0_build 180 = .ok (.invokevirtual 121, 3) := by decide +kernel
theorem dX0_build_183 : decode cX0_build 183 = .ok (.return_, 1) := by decide +kernel
theorem dX0_fuseNext_0 : decode cX0_fuseNext 0 = .ok (.iload_n 3, 1) := by decide +kernel
theorem dX0_fuseNext_1 : decode cX0_fuseNext 1 = .ok (.iconst 2, 1) := by decide +kernel
theorem dX0_fuseNext_2 : decode cX0_fuseNext 2 = .ok (.if_icmp .ne 75, 3) := by decide +kernel
theorem dX0_fuseNext_5 : decode cX0_fuseNext 5 = .ok (.aload_n 1, 1) := by decide +kernel
theorem dX0_fuseNext_6 : decode cX0_fuseNext 6 = .ok (.getfield 51, 3) := by decide +kernel
theorem dX0_fuseNext_9 : decode cX0_fuseNext 9 = .ok (.aload_n 0, 1) := by decide +kernel
theorem dX0_fuseNext_10 : decode cX0_fuseNext 10 = .ok (.getfield 26, 3) := by decide +kernel
theorem dX0_fuseNext_13 : decode cX0_fuseNext 13 = .ok (.iaload, 1) := by decide +kernel
theorem dX0_fuseNext_14 : decode cX0_fuseNext 14 = .ok (.aload_n 0, 1) := by decide +kernel
theorem dX0_fuseNext_15 : decode cX0_fuseNext 15 = .ok (.getfield 26, 3) := by decide +kernel
theorem dX0_fuseNext_18 : decode cX0_fuseNext 18 = .ok (.isub, 1) := by decide +kernel
theorem dX0_fuseNext_19 : decode cX0_fuseNext 19 = .ok (.iconst 1, 1) := by decide +kernel
theorem dX0_fuseNext_20 : decode cX0_fuseNext 20 = .ok (.isub, 1) := by decide +kernel
theorem dX0_fuseNext_21 : decode cX0_fuseNext 21 = .ok (.istore 5, 2) := by decide +kernel
theorem dX0_fuseNext_23 : decode cX0_fuseNext 23 = .ok (.aload_n 1, 1) := by decide +kernel
theorem dX0_fuseNext_24 : decode cX0_fuseNext 24 = .ok (.aload_n 0, 1) := by decide +kernel
theorem dX0_fuseNext_25 : decode cX0_fuseNext 25 = .ok (.getfield 26, 3) := by decide +kernel
theorem dX0_fuseNext_28 : decode cX0_fuseNext 28 = .ok (.iconst 1, 1) := by decide +kernel
theorem dX0_fuseNext_29 : decode cX0_fuseNext 29 = .ok (.iadd, 1) := by decide +kernel
theorem dX0_fuseNext_30 : decode cX0_fuseNext 30 = .ok (.aload_n 2, 1) := by decide +kernel
theorem dX0_fuseNext_31 : decode cX0_fuseNext 31 = .ok (.aload_n 0, 1) := by decide +kernel
theorem dX0_fuseNext_32 : decode cX0_fuseNext 32 = .ok (.getfield 29, 3) := by decide +kernel
theorem dX0_fuseNext_35 : decode cX0_fuseNext 35 = .ok (.iload 5, 2) := by decide +kernel
theorem dX0_fuseNext_37 : decode cX0_fuseNext 37 = .ok (.aload_n 1, 1) := by decide +kernel
theorem dX0_fuseNext_38 : decode cX0_fuseNext 38 = .ok (.getfield 48, 3) := by decide +kernel
theorem dX0_fuseNext_41 : decode cX0_fuseNext 41 = .ok (.aload_n 0, 1) := by decide +kernel
theorem dX0_fuseNext_42 : decode cX0_fuseNext 42 = .ok (.getfield 26, 3) := by decide +kernel
theorem dX0_fuseNext_45 : decode cX0_fuseNext 45 = .ok (.iaload, 1) := by decide +kernel
theorem dX0_fuseNext_46 : decode cX0_fuseNext 46 = .ok (.aload 4, 2) := by decide +kernel
theorem dX0_fuseNext_48 : decode cX0_fuseNext 48 = .ok (.invokestatic 128, 3) := by decide +kernel
theorem dX0_fuseNext_51 : decode cX0_fuseNext 51 = .ok (.aload_n 0, 1) := by decide +kernel
theorem dX0_fuseNext_52 : decode cX0_fuseNext 52 = .ok (.aload_n 1, 1) := by decide +kernel
theorem dX0_fuseNext_53 : decode cX0_fuseNext 53 = .ok (.aload_n 0, 1) := by decide +kernel
theorem dX0_fuseNext_54 : decode cX0_fuseNext 54 = .ok (.getfield 26, 3) := by decide +kernel
theorem dX0_fuseNext_57 : decode cX0_fuseNext 57 = .ok (.invokevirtual 78, 3) := by decide +kernel
theorem dX0_fuseNext_60 : decode cX0_fuseNext 60 = .ok (.putfield 26, 3) := by decide +kernel
theorem dX0_fuseNext_63 : decode cX0_fuseNext 63 = .ok (.aload_n 0, 1) := by decide +kernel
theorem dX0_fuseNext_64 : decode cX0_fuseNext 64 = .ok (.dup, 1) := by decide +kernel
theorem dX0_fuseNext_65 : decode cX0_fuseNext 65 = .ok (.getfield 29, 3) := by decide +kernel
theorem dX0_fuseNext_68 : decode cX0_fuseNext 68 = .ok (.iload 5, 2) := by decide +kernel
theorem dX0_fuseNext_70 : decode cX0_fuseNext 70 = .ok (.iadd, 1) := by decide +kernel
theorem dX0_fuseNext_71 : decode cX0_fuseNext 71 = .ok (.putfield 29, 3) := by decide +kernel
theorem dX0_fuseNext_74 : decode cX0_fuseNext 74 = .ok (.goto 120, 3) := by decide +kernel
theorem dX0_fuseNext_77 : decode cX0_fuseNext 77 = .ok (.iload_n 3, 1) := by decide +kernel
theorem dX0_fuseNext_78 : decode cX0_fuseNext 78 = .ok (.iconst 3, 1) := by decide +kernel
theorem dX0_fuseNext_79 : decode cX0_fuseNext 79 = .ok (.if_icmp .ne 69, 3) := by decide +kernel
theorem dX0_fuseNext_82 : decode cX0_fuseNext 82 = .ok (.aload_n 2, 1) := by decide +kernel
theorem dX0_fuseNext_83 : decode cX0_fuseNext 83 = .ok (.getfield 51, 3) := by decide +kernel
theorem dX0_fuseNext_86 : decode cX0_fuseNext 86 = .ok (.aload_n 0, 1) := by decide +kernel
theorem dX0_fuseNext_87 : decode cX0_fuseNext 87 = .ok (.getfield 29, 3) := by decide +kernel
theorem dX0_fuseNext_90 : decode cX0_fuseNext 90 = .ok (.iaload, 1) := by decide +kernel
theorem dX0_fuseNext_91 : decode cX0_fuseNext 91 = .ok (.aload_n 0, 1) := by decide +kernel
theorem dX0_fuseNext_92 : decode cX0_fuseNext 92 = .ok (.getfield 29, 3) := by decide +kernel
theorem dX0_fuseNext_95 : decode cX0_fuseNext 95 = .ok (.isub, 1) := by decide +kernel
theorem dX0_fuseNext_96 : decode cX0_fuseNext 96 = .ok (.iconst 1, 1) := by decide +kernel
theorem dX0_fuseNext_97 : decode cX0_fuseNext 97 = .ok (.isub, 1) := by decide +kernel
theorem dX0_fuseNext_98 : decode cX0_fuseNext 98 = .ok (.istore 5, 2) := by decide +kernel
theorem dX0_fuseNext_100 : decode cX0_fuseNext 100 = .ok (.aload_n 1, 1) := by decide +kernel
theorem dX0_fuseNext_101 : decode cX0_fuseNext 101 = .ok (.aload_n 0, 1) := by decide +kernel
theorem dX0_fuseNext_102 : decode cX0_fuseNext 102 = .ok (.getfield 26, 3) := by decide +kernel
theorem dX0_fuseNext_105 : decode cX0_fuseNext 105 = .ok (.aload_n 2, 1) := by decide +kernel
theorem dX0_fuseNext_106 : decode cX0_fuseNext 106 = .ok (.aload_n 0, 1) := by decide +kernel
theorem dX0_fuseNext_107 : decode cX0_fuseNext 107 = .ok (.getfield 29, 3) := by decide +kernel
theorem dX0_fuseNext_110 : decode cX0_fuseNext 110 = .ok (.iconst 1, 1) := by decide +kernel
theorem dX0_fuseNext_111 : decode cX0_fuseNext 111 = .ok (.iadd, 1) := by decide +kernel
theorem dX0_fuseNext_112 : decode cX0_fuseNext 112 = .ok (.iload 5, 2) := by decide +kernel
theorem dX0_fuseNext_114 : decode cX0_fuseNext 114 = .ok (.sipush 514, 3) := by decide +kernel
theorem dX0_fuseNext_117 : decode cX0_fuseNext 117 = .ok (.aload 4, 2) := by decide +kernel
theorem dX0_fuseNext_119 : decode cX0_fuseNext 119 = .ok (.invokestatic 128, 3) := by decide +kernel
theorem dX0_fuseNext_122 : decode cX0_fuseNext 122 = .ok (.aload_n 0, 1) := by decide +kernel
theorem dX0_fuseNext_123 : decode cX0_fuseNext 123 = .ok (.dup, 1) := by decide +kernel
theorem dX0_fuseNext_124 : decode cX0_fuseNext 124 = .ok (.getfield 26, 3) := by decide +kernel
theorem dX0_fuseNext_127 : decode cX0_fuseNext 127 = .ok (.iload 5, 2) := by decide +kernel
theorem dX0_fuseNext_129 : decode cX0_fuseNext 129 = .ok (.iadd, 1) := by decide +kernel
theorem dX0_fuseNext_130 : decode cX0_fuseNext 130 = .ok (.putfield 26, 3) := by decide +kernel
theorem dX0_fuseNext_133 : decode cX0_fuseNext 133 = .ok (.aload_n 0, 1) := by decide +kernel
theorem dX0_fuseNext_134 : decode cX0_fuseNext 134 = .ok (.aload_n 2, 1) := by decide +kernel
theorem dX0_fuseNext_135 : decode cX0_fuseNext 135 = .ok (.aload_n 0, 1) := by decide +kernel
theorem dX0_fuseNext_136 : decode cX0_fuseNext 136 = .ok (.getfield 29, 3) := by decide +kernel
theorem dX0_fuseNext_139 : decode cX0_fuseNext 139 = .ok (.invokevirtual 78, 3) := by decide +kernel
theorem dX0_fuseNext_142 : decode cX0_fuseNext 142 = .ok (.putfield 29, 3) := by decide +kernel
theorem dX0_fuseNext_145 : decode cX0_fuseNext 145 = .ok (.goto 49, 3) := by decide +kernel
theorem dX0_fuseNext_148 : decode cX0_fuseNext 148 = .ok (.aload 4, 2) := by decide +kernel
theorem dX0_fuseNext_150 : decode cX0_fuseNext 150 = .ok (.aload_n 1, 1) := by decide +kernel
theorem dX0_fuseNext_151 : decode cX0_fuseNext 151 = .ok (.getfield 48, 3) := by decide +kernel
theorem dX0_fuseNext_154 : decode cX0_fuseNext 154 = .ok (.aload_n 0, 1) := by decide +kernel
theorem dX0_fuseNext_155 : decode cX0_fuseNext 155 = .ok (.getfield 26, 3) := by decide +kernel
theorem dX0_fuseNext_158 : decode cX0_fuseNext 158 = .ok (.iaload, 1) := by decide +kernel
theorem dX0_fuseNext_159 : decode cX0_fuseNext 159 = .ok (.aload_n 2, 1) := by decide +kernel
theorem dX0_fuseNext_160 : decode cX0_fuseNext 160 = .ok (.getfield 48, 3) := by decide +kernel
theorem dX0_fuseNext_163 : decode cX0_fuseNext 163 = .ok (.aload_n 0, 1) := by decide +kernel
theorem dX0_fuseNext_164 : decode cX0_fuseNext 164 = .ok (.getfield 29, 3) := by decide +kernel
theorem dX0_fuseNext_167 : decode cX0_fuseNext 167 = .ok (.iaload, 1) := by decide +kernel
theorem dX0_fuseNext_168 : decode cX0_fuseNext 168 = .ok (.invokestatic 132, 3) := by decide +kernel
theorem dX0_fuseNext_171 : decode cX0_fuseNext 171 = .ok (.invokevirtual 110, 3) := by decide +kernel
theorem dX0_fuseNext_174 : decode cX0_fuseNext 174 = .ok (.aload_n 0, 1) := by decide +kernel
theorem dX0_fuseNext_175 : decode cX0_fuseNext 175 = .ok (.dup, 1) := by decide +kernel
theorem dX0_fuseNext_176 : decode cX0_fuseNext 176 = .ok (.getfield 26, 3) := by decide +kernel
theorem dX0_fuseNext_179 : decode cX0_fuseNext 179 = .ok (.iconst 1, 1) := by decide +kernel
theorem dX0_fuseNext_180 : decode cX0_fuseNext 180 = .ok (.iadd, 1) := by decide +kernel
theorem dX0_fuseNext_181 : decode cX0_fuseNext 181 = .ok (.putfield 26, 3) := by decide +kernel
theorem dX0_fuseNext_184 : decode cX0_fuseNext 184 = .ok (.aload_n 0, 1) := by decide +kernel
theorem dX0_fuseNext_185 : decode cX0_fuseNext 185 = .ok (.dup, 1) := by decide +kernel
theorem dX0_fuseNext_186 : decode cX0_fuseNext 186 = .ok (.getfield 29, 3) := by decide +kernel
theorem dX0_fuseNext_189 : decode cX0_fuseNext 189 = .ok (.iconst 1, 1) := by decide +kernel
theorem dX0_fuseNext_190 : decode cX0_fuseNext 190 = .ok (.iadd, 1) := by decide +kernel
theorem dX0_fuseNext_191 : decode cX0_fuseNext 191 = .ok (.putfield 29, 3) := by decide +kernel
theorem dX0_fuseNext_194 : decode cX0_fuseNext 194 = .ok (.return_, 1) := by decide +kernel
/-! laying: fused, and the whole -/
theorem r41 {q2 rm2 x y : Nat} (h : rowB q2 rm2) : ¬ (q2 + 2 = 41 ∧ x = y) := by have := rowB_f h; omega
theorem r41b {q3 rm3 x y : Nat} (h : rowB q3 rm3) : ¬ (q3 + 1 = 41 ∧ x = y) := by have := rowB_f h; omega
theorem r41c {q3 rm3 x y : Nat} (h : rowB q3 rm3) : ¬ (q3 = 41 ∧ x = y) := by have := rowB_f h; omega
theorem BQ_2 {q3 rm3 y : Nat} (h : rowB q3 rm3) : ¬ BQ q3 (q3 + 2) y := by
  have := rowB_f h
  unfold BQ
  omega
set_option maxHeartbeats 4000000 in
set_option maxRecDepth 100000 in
theorem s_YfuseNext (l : Launch) (dC : Nat → ClassId) (dI : Nat → Nat → Nat) (cI cZ cII cIII : ClassId) (h0 sz : Nat) (μ : va_M) (q : Nat) (rm : Nat) (q2 : Nat) (rm2 : Nat) (q3 : Nat) (rm3 : Nat) (wy : Int) (hq : rowB q rm) (hq2 : rowB q2 rm2) (hq3 : rowB q3 rm3) (ha3 : apart q3 q) (ha32 : apart q3 q2) (hG : rG μ q rm) (hG2 : rG μ q2 rm2) (h96 : rm2 = 96) (hv : vis μ q q2 (μ 41 4) (μ 41 5)) (hw : wOK μ q q2 (μ 41 4) (μ 41 5) wy) (hw9 : wy ≠ 4 ∧ wy ≠ 5 ∧ 0 ≤ wy ∧ wy ≤ 7) (hne : μ 41 4 < μ q 5 ∨ μ 41 5 < μ q2 5) (ho : outS μ q3 rm3 (Dp (μ (q + 1)) (μ 41 4).toNat)) : Met l yX0_fuseNext (Cond.code yX0_fuseNext cX0_fuseNext 6 none :: wsG) ({ frames := 3, cells := 0, slots := 0, locals := 62 } : Room) (va_Pc [.ref (h0 + 41), .ref (h0 + q), .ref (h0 + q2), .int (iZ (wy)), .ref (h0 + q3)] (fun U => U.heap.size = sz ∧ va_P (dC, dI) vwCl (fw (sE cI cZ cII cIII h0) h0 233 μ) U.heap ∧ va_K (dC, dI) vwCl (sT cI cZ cII cIII) U ∧ xM U)) (va_Qv (fun (u : va_M) => fr (BQ q3) μ u ∧ u 41 6 = μ 41 6 ∧ vis u q q2 (u 41 4) (u 41 5) ∧ outS u q3 rm3 (Dp (u (q + 1)) (u 41 4).toNat) ∧ μ 41 4 + μ 41 5 + 1 ≤ u 41 4 + u 41 5) (fun u t => va_P (dC, dI) vwCl (fw (sE cI cZ cII cIII h0) h0 233 u) t.heap ∧ va_K (dC, dI) vwCl (sT cI cZ cII cIII) t) (fA h0 233 sz)) 0 0 (fA h0 233 sz) := by
  refine Met.ofW (cc := cX0_fuseNext) (maxL := 6) (ret := none) (by decide) rfl ?_
  intro p e s m args below meth c s₁ B hml hv
  obtain ⟨rfl, hsz, hP, hK, hM⟩ := hv
  have hx := B.exec
  have hb := B.bytes
  have hr := B.returns
  have hts : ∀ w ∈ wsG, w.before _ s = true := hG_of (atoms_spec (ws := (Cond.code yX0_fuseNext cX0_fuseNext 6 none :: wsG)) B.pre)
  have hown : s.vm.findClass RX0 = some m.cls := findClass_of_methodNamed B.named
  have hlocks := B.notSynchronized
  subst hsz
  have hS : va_S (fA h0 233 s.heap.size) s.heap s.heap [] := va_S.rf
  have hl := lv_entry ([.ref (h0 + 41), .ref (h0 + q), .ref (h0 + q2), .int (iZ (wy)), .ref (h0 + q3)]) (n := 6) (Nat.le_of_ble_eq_true rfl)
  rw [lg_entry_eq]
  generalize (lg_sl ([.ref (h0 + 41), .ref (h0 + q), .ref (h0 + q2), .int (iZ (wy)), .ref (h0 + q3)]) ++ List.replicate (6 - (lg_sl ([.ref (h0 + 41), .ref (h0 + q), .ref (h0 + q2), .int (iZ (wy)), .ref (h0 + q3)])).length) Slot.unset).toArray = ls at hl ⊢
  have hl : lv_has ls 6 [(0, .ref (h0 + 41)), (1, .ref (h0 + q)), (2, .ref (h0 + q2)), (3, .int (iZ (wy))), (4, .ref (h0 + q3))] := hl
  have hqb := rowB_c hq
  have hqb2 := rowB_c hq2
  have hqb3 := rowB_c hq3
  have hrm := rG_rc hq hG
  have hrm2 := rG_rc hq2 hG2
  have hv0 := hv.1
  have hDn := ((rG_bal hG).2 (μ 41 4).toNat (by omega)).1
  have ho2 := ho.1
  have hs1 := hG.1 (μ 41 4).toNat
  have hs2 := hG2.1 (μ 41 5).toNat
  refine lv_iload_n hx hb dX0_fuseNext_0 rfl (lv_at hl 3 rfl) ?_
  refine lv_iconst (v := iZ 2) hx hb dX0_fuseNext_1 rfl ?_
  refine fz_icmp_ne (tgt := 77) (by constructor <;> omega) (by decide) hx hb dX0_fuseNext_2 (by decide) (fun c2_ => ?_) (fun c2_ => ?_)
  · refine lv_iload_n hx hb dX0_fuseNext_77 rfl (lv_at hl 3 rfl) ?_
    refine lv_iconst (v := iZ 3) hx hb dX0_fuseNext_78 rfl ?_
    refine fz_icmp_ne (tgt := 148) (by constructor <;> omega) (by decide) hx hb dX0_fuseNext_79 (by decide) (fun c79_ => ?_) (fun c79_ => ?_)
    · have h1w : μ 41 4 < μ q 5 ∧ μ 41 5 < μ q2 5 ∧ vis μ q q2 (μ 41 4 + 1) (μ 41 5 + 1) ∧ vS (sFu (μ (q + 1) (μ 41 4).toNat) (μ (q2 + 1) (μ 41 5).toNat)) ∧ 0 ≤ Dp (μ (q + 1)) (μ 41 4).toNat + dl (sFu (μ (q + 1) (μ 41 4).toNat) (μ (q2 + 1) (μ 41 5).toNat)) ∧ dl (sFu (μ (q + 1) (μ 41 4).toNat) (μ (q2 + 1) (μ 41 5).toNat)) = dl (μ (q + 1) (μ 41 4).toNat) := by
        rcases hw with h | h | h | h | h | h
        · obtain ⟨e1, e2, e3, e4, e5, e6⟩ := vis_e hG hG2 hv h.2.1 h.2.2 hne
          rw [e3, e4]
          exact ⟨e1, e2, e6, by show vS 515; unfold vS; omega, by show 0 ≤ _ + (-1 : Int); omega, rfl⟩
        · have hal : sAl (μ (q + 1) (μ 41 4).toNat) (μ (q2 + 1) (μ 41 5).toNat) := by
            rcases h.2.2 with h3 | h3
            · exact h3.2
            · rw [h3.1, h3.2]; exact Or.inl rfl
          have hvv := ((rG_bal hG).2 (μ 41 4).toNat (by omega)).2 (by omega)
          have hnn := ((rG_bal hG).2 ((μ 41 4).toNat + 1) (by omega)).1
          have hds := Dp_s (μ (q + 1)) (μ 41 4).toNat
          exact ⟨h.2.1.1, h.2.1.2, vis_1 hv h.2.1.1 h.2.1.2 h.2.2, sFu_v hvv, by rw [sFu_dl hal]; omega, sFu_dl hal⟩
        · exact absurd h.1 (by omega)
        · exact absurd h.1 (by omega)
        · exact absurd h.1 (by omega)
        · exact absurd h.1 (by omega)
      obtain ⟨u1_, u2_, u3_, u4_, u5_, u6_⟩ := h1w
      refine lv_aload hx hb dX0_fuseNext_148 (lv_at hl 4 rfl) ?_
      refine lv_aload_n hx hb dX0_fuseNext_150 rfl (lv_at hl 1 rfl) ?_
      refine fz_get (D := (dC, dI)) (ci := 4) (v := .ref (h0 + (q + 1))) (C := RX4) (T := TX4) (N := 8) hx hb hts inG4 hown hK hP (k := q) (by omega) (F := (sRF h0 q)) (sE_rowO hq) rfl 0 (by decide) (hts _ k80) (fun _ h9 => h9) rfl dX0_fuseNext_151 ?_
      refine lv_aload_n hx hb dX0_fuseNext_154 rfl (lv_at hl 0 rfl) ?_
      refine fz_get (D := (dC, dI)) (ci := 0) (v := .int (iZ (μ 41 4))) (C := RX0) (T := TX0) (N := 7) hx hb hts inG0 hown hK hP (k := 41) (by decide) (F := (sF41 h0)) sE_41 rfl 4 (by decide) (hts _ k186) (fun _ h9 => h9) rfl dX0_fuseNext_155 ?_
      refine fz_ld (k := (q + 1)) (n := rm) hx hb hK hP 0 (by omega) (sE_rowA (r := 1) hq (by decide)) rfl ⟨by omega, by omega⟩ (by omega) dX0_fuseNext_158 ?_
      refine lv_aload_n hx hb dX0_fuseNext_159 rfl (lv_at hl 2 rfl) ?_
      refine fz_get (D := (dC, dI)) (ci := 4) (v := .ref (h0 + (q2 + 1))) (C := RX4) (T := TX4) (N := 8) hx hb hts inG4 hown hK hP (k := q2) (by omega) (F := (sRF h0 q2)) (sE_rowO hq2) rfl 0 (by decide) (hts _ k80) (fun _ h9 => h9) rfl dX0_fuseNext_160 ?_
      refine lv_aload_n hx hb dX0_fuseNext_163 rfl (lv_at hl 0 rfl) ?_
      refine fz_get (D := (dC, dI)) (ci := 0) (v := .int (iZ (μ 41 5))) (C := RX0) (T := TX0) (N := 7) hx hb hts inG0 hown hK hP (k := 41) (by decide) (F := (sF41 h0)) sE_41 rfl 5 (by decide) (hts _ k187) (fun _ h9 => h9) rfl dX0_fuseNext_164 ?_
      refine fz_ld (k := (q2 + 1)) (n := rm2) hx hb hK hP 0 (by omega) (sE_rowA (r := 1) hq2 (by decide)) rfl ⟨by omega, by omega⟩ (by omega) dX0_fuseNext_167 ?_
      refine va_calli (va_runSN (As := [.int (iZ (μ (q + 1) (μ 41 4).toNat)), .int (iZ (μ (q2 + 1) (μ 41 5).toNat))]) (rest := [.ref (h0 + q3)]) ⟨hx, hb, hml, hown, hts⟩ (s_fused l dC dI cI cZ cII cIII h0 s.heap.size μ (μ (q + 1) (μ 41 4).toNat) (μ (q2 + 1) (μ 41 5).toNat) (by constructor <;> omega) (by constructor <;> omega)) ⟨va_cnB (host := "PageSkeleton") 2 hts (gI_G k458) rfl rfl rfl (xM_nest hM 19 rfl) (hts _ k1) (by decide +kernel) ⟨Nat.le_of_ble_eq_true rfl, Nat.le_of_ble_eq_true rfl⟩, hts _ k457, trivial⟩ ⟨fun a U g mk q => by obtain ⟨q0, q1, qP, qK, qM⟩ := q; exact ⟨q0, q1, qP, va_K.moved (u := U) (U := U.calling g mk a) (Vm.Alike.refl U.vm) qK, qM⟩, fun U hU hW => ⟨rfl, by rw [hU], by rw [hU]; exact hP, va_K.moved hW.alike hK, xM_warm hW hM⟩⟩ rfl rfl hl.1 rfl (lv_room (Nat.le_of_ble_eq_true rfl)) dX0_fuseNext_168 ⟨Nat.le_of_ble_eq_true rfl, Nat.le_of_ble_eq_true rfl⟩) hS (fun q _ h => fA_le hS.1 q h) (fA_le hS.1) (fun r9 u9 t9 H1 locs ht9 hvm9 hw9 hB9 hz9 hk9 hS => ?_)
      obtain ⟨μq, rq⟩ := u9
      obtain ⟨hP, -⟩ := hB9
      rw [ht9] at hP
      generalize H1 = H at hP hS ⊢
      obtain ⟨e9, hw9⟩ := hw9
      have e9 : r9 = iZ rq := e9
      subst e9
      simp only at hP hw9
      have hμq := hw9; clear hw9
      rw [hμq.1] at hP; have hμq := hμq.2
      have hrq : rq = sFu (μ (q + 1) (μ 41 4).toNat) (μ (q2 + 1) (μ 41 5).toNat) := hμq
      rw [← hrq] at u4_ u5_ u6_
      refine va_callv (va_runV (As := [.int (iZ (rq))]) (rest := []) ⟨hx, hb, hml, hown, hts⟩ (s_Rput l dC dI cI cZ cII cIII h0 H.size μ (q3) (rm3) (rq) (hq3) (by exact ho2)) (cwV 1 hts (gV_G k819 k411 k412 k3 k413) rfl rfl rfl (by decide +kernel) ⟨Nat.le_of_ble_eq_true rfl, Nat.le_of_ble_eq_true rfl⟩) ⟨fun a U g mk q => by obtain ⟨q0, q1, qP, qK, qM⟩ := q; exact ⟨q0, q1, qP, va_K.moved (u := U) (U := U.calling g mk a) (Vm.Alike.refl U.vm) qK, qM⟩, va_recv hK hP (ci := 4) (q0 := q3) rfl ((fw_get (by omega)).trans (by rw [(sE_rowO hq3)])), fun U hU hW => ⟨rfl, by rw [hU], by rw [hU]; exact hP, va_K.moved hW.alike hK, xM_warm hW hM⟩⟩ rfl rfl hl.1 rfl (lv_room (Nat.le_of_ble_eq_true rfl)) dX0_fuseNext_171 ⟨Nat.le_of_ble_eq_true rfl, Nat.le_of_ble_eq_true rfl⟩) hS (fun q _ h => fA_le hS.1 q h) (fA_le hS.1) (fun u9 t9 H1 locs ht9 hvm9 hw9 hB9 hz9 hk9 hS => ?_)
      obtain ⟨hP, -⟩ := hB9
      rw [ht9] at hP
      generalize H1 = H at hP hS ⊢
      obtain ⟨μp, eμp⟩ : ∃ x : va_M, x = u9 := ⟨_, rfl⟩
      rw [← eμp] at hP hw9
      have hμp := hw9; clear hw9
      obtain ⟨c1, c2⟩ := hμp
      obtain ⟨o1_, f1_⟩ := outS_put ho u4_ u5_ c1 c2
      have w4 : μp 41 4 = μ 41 4 := f1_ _ _ (n41 hq3)
      have w5 : μp 41 5 = μ 41 5 := f1_ _ _ (n41 hq3)
      refine lv_aload_n hx hb dX0_fuseNext_174 rfl (lv_at hl 0 rfl) ?_
      refine lv_dup hx hb dX0_fuseNext_175 rfl ?_
      refine fz_get (D := (dC, dI)) (ci := 0) (v := .int (iZ (μp 41 4))) (C := RX0) (T := TX0) (N := 7) hx hb hts inG0 hown hK hP (k := 41) (by decide) (F := (sF41 h0)) sE_41 rfl 4 (by decide) (hts _ k186) (fun _ h9 => h9) rfl dX0_fuseNext_176 ?_
      refine lv_iconst (v := iZ 1) hx hb dX0_fuseNext_179 rfl ?_
      refine lv_iadd hx hb dX0_fuseNext_180 ?_
      refine lv_topi (fun x9 ex9 => ?_)
      obtain rfl : x9 = iZ ((μp 41 4) + 1) := ex9.trans (iZ_add _ _)
      refine fz_put (D := (dC, dI)) (ci := 0) (ty := .int) (z := ((μp 41 4) + 1)) (C := RX0) (T := TX0) (N := 7) hx hb hts inG0 tyX0 tyX0_ok nmX0 hown hK hP fA_in hS (k := 41) (by decide) (F := (sF41 h0)) sE_41 rfl 4 (by decide) (hts _ k186) (fun _ h9 => h9) rfl (by decide +kernel) rfl rfl (fun _ => Nat.le_of_ble_eq_true rfl) (fun _ _ => rfl) dX0_fuseNext_181 (fun H locs hP hS => ?_)
      obtain ⟨μ1, eμ1⟩ : ∃ x : va_M, x = uz μp 41 4 ((μp 41 4) + 1) := ⟨_, rfl⟩
      rw [← eμ1] at hP
      refine lv_aload_n hx hb dX0_fuseNext_184 rfl (lv_at hl 0 rfl) ?_
      refine lv_dup hx hb dX0_fuseNext_185 rfl ?_
      refine fz_get (D := (dC, dI)) (ci := 0) (v := .int (iZ (μ1 41 5))) (C := RX0) (T := TX0) (N := 7) hx hb hts inG0 hown hK hP (k := 41) (by decide) (F := (sF41 h0)) sE_41 rfl 5 (by decide) (hts _ k187) (fun _ h9 => h9) rfl dX0_fuseNext_186 ?_
      rw [show μ1 41 5 = μp 41 5 from by rw [eμ1, uz_n (by omega)]]
      refine lv_iconst (v := iZ 1) hx hb dX0_fuseNext_189 rfl ?_
      refine lv_iadd hx hb dX0_fuseNext_190 ?_
      refine lv_topi (fun x9 ex9 => ?_)
      obtain rfl : x9 = iZ ((μp 41 5) + 1) := ex9.trans (iZ_add _ _)
      refine fz_put (D := (dC, dI)) (ci := 0) (ty := .int) (z := ((μp 41 5) + 1)) (C := RX0) (T := TX0) (N := 7) hx hb hts inG0 tyX0 tyX0_ok nmX0 hown hK hP fA_in hS (k := 41) (by decide) (F := (sF41 h0)) sE_41 rfl 5 (by decide) (hts _ k187) (fun _ h9 => h9) rfl (by decide +kernel) rfl rfl (fun _ => Nat.le_of_ble_eq_true rfl) (fun _ _ => rfl) dX0_fuseNext_191 (fun H locs hP hS => ?_)
      obtain ⟨μ2, eμ2⟩ : ∃ x : va_M, x = uz μ1 41 5 ((μp 41 5) + 1) := ⟨_, rfl⟩
      rw [← eμ2] at hP
      exact W.vret hx hb hr (fun t9 ht9 hW9 => ⟨⟨μ2, rfl, (by
                    try dsimp only
                    have F5 : fr (BQ q3) μ μ2 := by rw [eμ2, eμ1]; exact fr_uz (fr_uz (fr_mono f1_ (fun x y h => Or.inl h)) (Or.inr ⟨rfl, by decide, by decide⟩)) (Or.inr ⟨rfl, by decide, by decide⟩)
                    have XB : ag μ μ2 q := ag_BQ hq ha3 F5
                    have XB2 : ag μ μ2 q2 := ag_BQ hq2 ha32 F5
                    have A4 : μ2 41 4 = μ 41 4 + 1 := by
                      rw [eμ2, eμ1, uz_n (by decide), uz_s]
                      omega
                    have A5 : μ2 41 5 = μ 41 5 + 1 := by
                      rw [eμ2, eμ1, uz_s]
                      omega
                    refine ⟨F5, by rw [eμ2, eμ1, uz_n (by decide), uz_n (by decide)]; exact f1_ _ _ (n41 hq3), by rw [vis_eq XB XB2, A4, A5]; exact u3_, ?_, by omega⟩
                    rw [A4, ag_E XB]
                    refine outS_at (of_w hq3 rfl (of_w hq3 rfl o1_ rfl) (by rw [eμ2, eμ1])) ?_
                    · rw [show (μ 41 4 + 1).toNat = (μ 41 4).toNat + 1 by omega, Dp_s]; omega), by rw [ht9]; exact hP, va_K.moved hW9.alike hK⟩, hS.F ht9⟩) hS.2.2 dX0_fuseNext_194
    · have h3w : μ 41 5 < μ q2 5 ∧ μ (q2 + 1) (μ 41 5).toNat = 514 ∧ sMat μ (q + 1) (μ 41 4) (μ q 5) (q2 + 1) (μ 41 5 + 1) (μ q2 5) (μ (q2 + 2) (μ 41 5).toNat - μ 41 5 - 1) := by
        rcases hw with h | h | h | h | h | h
        · exact absurd h.1 (by omega)
        · exact absurd h.1 (by omega)
        · exact absurd h.1 (by omega)
        · exact h.2
        · exact absurd h.1 (by omega)
        · exact absurd h.1 (by omega)
      obtain ⟨u1_, u2_, u3_⟩ := h3w
      obtain ⟨y1_, y2_, y3_, y4_⟩ := vis_3 hG hG2 hv u1_ u2_ u3_
      have u4_ := u3_.1
      have y5_ := y3_.1
      refine lv_aload_n hx hb dX0_fuseNext_82 rfl (lv_at hl 2 rfl) ?_
      refine fz_get (D := (dC, dI)) (ci := 4) (v := .ref (h0 + (q2 + 2))) (C := RX4) (T := TX4) (N := 8) hx hb hts inG4 hown hK hP (k := q2) (by omega) (F := (sRF h0 q2)) (sE_rowO hq2) rfl 1 (by decide) (hts _ k85) (fun _ h9 => h9) rfl dX0_fuseNext_83 ?_
      refine lv_aload_n hx hb dX0_fuseNext_86 rfl (lv_at hl 0 rfl) ?_
      refine fz_get (D := (dC, dI)) (ci := 0) (v := .int (iZ (μ 41 5))) (C := RX0) (T := TX0) (N := 7) hx hb hts inG0 hown hK hP (k := 41) (by decide) (F := (sF41 h0)) sE_41 rfl 5 (by decide) (hts _ k187) (fun _ h9 => h9) rfl dX0_fuseNext_87 ?_
      refine fz_ld (k := (q2 + 2)) (n := rm2) hx hb hK hP 0 (by omega) (sE_rowA (r := 2) hq2 (by decide)) rfl ⟨by omega, by omega⟩ (by omega) dX0_fuseNext_90 ?_
      refine lv_aload_n hx hb dX0_fuseNext_91 rfl (lv_at hl 0 rfl) ?_
      refine fz_get (D := (dC, dI)) (ci := 0) (v := .int (iZ (μ 41 5))) (C := RX0) (T := TX0) (N := 7) hx hb hts inG0 hown hK hP (k := 41) (by decide) (F := (sF41 h0)) sE_41 rfl 5 (by decide) (hts _ k187) (fun _ h9 => h9) rfl dX0_fuseNext_92 ?_
      refine lv_isub hx hb dX0_fuseNext_95 ?_
      refine lv_topi (fun x9 ex9 => ?_)
      obtain rfl : x9 = iZ ((μ (q2 + 2) (μ 41 5).toNat) - (μ 41 5)) := ex9.trans (iZ_sub _ _)
      refine lv_iconst (v := iZ 1) hx hb dX0_fuseNext_96 rfl ?_
      refine lv_isub hx hb dX0_fuseNext_97 ?_
      refine lv_topi (fun x9 ex9 => ?_)
      obtain rfl : x9 = iZ (((μ (q2 + 2) (μ 41 5).toNat) - (μ 41 5)) - 1) := ex9.trans (iZ_sub _ _)
      refine lv_istore (lv' := [(5, .int (iZ (((μ (q2 + 2) (μ 41 5).toNat) - (μ 41 5)) - 1))), (0, .ref (h0 + 41)), (1, .ref (h0 + q)), (2, .ref (h0 + q2)), (3, .int (iZ (wy))), (4, .ref (h0 + q3))]) hx hb dX0_fuseNext_98 hl (by decide) rfl (fun ls hl => ?_)
      refine lv_aload_n hx hb dX0_fuseNext_100 rfl (lv_at hl 2 rfl) ?_
      refine lv_aload_n hx hb dX0_fuseNext_101 rfl (lv_at hl 1 rfl) ?_
      refine fz_get (D := (dC, dI)) (ci := 0) (v := .int (iZ (μ 41 4))) (C := RX0) (T := TX0) (N := 7) hx hb hts inG0 hown hK hP (k := 41) (by decide) (F := (sF41 h0)) sE_41 rfl 4 (by decide) (hts _ k186) (fun _ h9 => h9) rfl dX0_fuseNext_102 ?_
      refine lv_aload_n hx hb dX0_fuseNext_105 rfl (lv_at hl 3 rfl) ?_
      refine lv_aload_n hx hb dX0_fuseNext_106 rfl (lv_at hl 1 rfl) ?_
      refine fz_get (D := (dC, dI)) (ci := 0) (v := .int (iZ (μ 41 5))) (C := RX0) (T := TX0) (N := 7) hx hb hts inG0 hown hK hP (k := 41) (by decide) (F := (sF41 h0)) sE_41 rfl 5 (by decide) (hts _ k187) (fun _ h9 => h9) rfl dX0_fuseNext_107 ?_
      refine lv_iconst (v := iZ 1) hx hb dX0_fuseNext_110 rfl ?_
      refine lv_iadd hx hb dX0_fuseNext_111 ?_
      refine lv_topi (fun x9 ex9 => ?_)
      obtain rfl : x9 = iZ ((μ 41 5) + 1) := ex9.trans (iZ_add _ _)
      refine lv_iload hx hb dX0_fuseNext_112 (lv_at hl 0 rfl) ?_
      refine lv_sipush (v := iZ 514) hx hb dX0_fuseNext_114 rfl ?_
      refine lv_aload hx hb dX0_fuseNext_117 (lv_at hl 5 rfl) ?_
      refine va_callv (va_runS (As := [.ref (h0 + q), .int (iZ (μ 41 4)), .ref (h0 + q2), .int (iZ ((μ 41 5) + 1)), .int (iZ (((μ (q2 + 2) (μ 41 5).toNat) - (μ 41 5)) - 1)), .int (iZ (514)), .ref (h0 + q3)]) (rest := []) ⟨hx, hb, hml, hown, hts⟩ (s_YputFused l dC dI cI cZ cII cIII h0 s.heap.size μ (q) (rm) (q2) (rm2) (q3) (rm3) (μ 41 4) ((μ 41 5) + 1) (((μ (q2 + 2) (μ 41 5).toNat) - (μ 41 5)) - 1) (514) (Dp (μ (q + 1)) (μ 41 4).toNat) (hq) (hq2) (hq3) (by exact ha3) (by exact ha32) (by first | assumption | omega | exact ⟨by omega, by omega⟩) (by first | assumption | omega | exact ⟨by omega, by omega⟩) (by first | assumption | omega | exact ⟨by omega, by omega⟩) (by omega) (by intro t ht; exact u3_.2 t ht) (by exact y4_) (by exact Or.inr rfl) (by omega) (by exact ho)) (cwS 7 hts (gS_G k832 k833 k7 k834) rfl rfl rfl (by decide +kernel) ⟨Nat.le_of_ble_eq_true rfl, Nat.le_of_ble_eq_true rfl⟩) ⟨fun a U g mk q => by obtain ⟨q0, q1, qP, qK, qM⟩ := q; exact ⟨q0, q1, qP, va_K.moved (u := U) (U := U.calling g mk a) (Vm.Alike.refl U.vm) qK, qM⟩, fun U hU hW => ⟨rfl, by rw [hU], by rw [hU]; exact hP, va_K.moved hW.alike hK, xM_warm hW hM⟩⟩ rfl rfl hl.1 rfl (lv_room (Nat.le_of_ble_eq_true rfl)) dX0_fuseNext_119 ⟨Nat.le_of_ble_eq_true rfl, Nat.le_of_ble_eq_true rfl⟩) hS (fun q _ h => fA_le hS.1 q h) (fA_le hS.1) (fun u9 t9 H1 locs ht9 hvm9 hw9 hB9 hz9 hk9 hS => ?_)
      obtain ⟨hP, -⟩ := hB9
      rw [ht9] at hP
      generalize H1 = H at hP hS ⊢
      obtain ⟨μp, eμp⟩ : ∃ x : va_M, x = u9 := ⟨_, rfl⟩
      rw [← eμp] at hP hw9
      have hμp := hw9; clear hw9
      obtain ⟨o1_, f1_⟩ := hμp
      have w4 : μp 41 4 = μ 41 4 := f1_ _ _ (n41 hq3)
      have w5 : μp 41 5 = μ 41 5 := f1_ _ _ (n41 hq3)
      have wm : μp (q2 + 2) (μ 41 5).toNat = μ (q2 + 2) (μ 41 5).toNat := ag_2 ha32 f1_ _ _ (by omega) (by omega)
      refine lv_aload_n hx hb dX0_fuseNext_122 rfl (lv_at hl 1 rfl) ?_
      refine lv_dup hx hb dX0_fuseNext_123 rfl ?_
      refine fz_get (D := (dC, dI)) (ci := 0) (v := .int (iZ (μp 41 4))) (C := RX0) (T := TX0) (N := 7) hx hb hts inG0 hown hK hP (k := 41) (by decide) (F := (sF41 h0)) sE_41 rfl 4 (by decide) (hts _ k186) (fun _ h9 => h9) rfl dX0_fuseNext_124 ?_
      refine lv_iload hx hb dX0_fuseNext_127 (lv_at hl 0 rfl) ?_
      refine lv_iadd hx hb dX0_fuseNext_129 ?_
      refine lv_topi (fun x9 ex9 => ?_)
      obtain rfl : x9 = iZ ((μp 41 4) + (((μ (q2 + 2) (μ 41 5).toNat) - (μ 41 5)) - 1)) := ex9.trans (iZ_add _ _)
      refine fz_put (D := (dC, dI)) (ci := 0) (ty := .int) (z := ((μp 41 4) + (((μ (q2 + 2) (μ 41 5).toNat) - (μ 41 5)) - 1))) (C := RX0) (T := TX0) (N := 7) hx hb hts inG0 tyX0 tyX0_ok nmX0 hown hK hP fA_in hS (k := 41) (by decide) (F := (sF41 h0)) sE_41 rfl 4 (by decide) (hts _ k186) (fun _ h9 => h9) rfl (by decide +kernel) rfl rfl (fun _ => Nat.le_of_ble_eq_true rfl) (fun _ _ => rfl) dX0_fuseNext_130 (fun H locs hP hS => ?_)
      obtain ⟨μ3, eμ3⟩ : ∃ x : va_M, x = uz μp 41 4 ((μp 41 4) + (((μ (q2 + 2) (μ 41 5).toNat) - (μ 41 5)) - 1)) := ⟨_, rfl⟩
      rw [← eμ3] at hP
      have w6 : μ3 41 5 = μ 41 5 := by rw [eμ3, uz_n (by decide)]; exact w5
      have wm3 : μ3 (q2 + 2) (μ3 41 5).toNat = μ (q2 + 2) (μ 41 5).toNat := by rw [w6, eμ3, uz_n (r41 hq2)]; exact wm
      have wm2 : μ3 (q2 + 2) (μp 41 5).toNat = μ (q2 + 2) (μ 41 5).toNat := by rw [w5, eμ3, uz_n (r41 hq2)]; exact wm
      refine lv_aload_n hx hb dX0_fuseNext_133 rfl (lv_at hl 1 rfl) ?_
      refine lv_aload_n hx hb dX0_fuseNext_134 rfl (lv_at hl 3 rfl) ?_
      refine lv_aload_n hx hb dX0_fuseNext_135 rfl (lv_at hl 1 rfl) ?_
      refine fz_get (D := (dC, dI)) (ci := 0) (v := .int (iZ (μ3 41 5))) (C := RX0) (T := TX0) (N := 7) hx hb hts inG0 hown hK hP (k := 41) (by decide) (F := (sF41 h0)) sE_41 rfl 5 (by decide) (hts _ k187) (fun _ h9 => h9) rfl dX0_fuseNext_136 ?_
      rw [show μ3 41 5 = μp 41 5 from by rw [eμ3, uz_n (by omega)]]
      refine va_calli (va_runV (As := [.int (iZ (μp 41 5))]) (rest := [.ref (h0 + 41)]) ⟨hx, hb, hml, hown, hts⟩ (s_Rafter l dC dI cI cZ cII cIII h0 H.size μ3 (q2) (rm2) (μp 41 5) (hq2) (by omega) (by constructor <;> omega)) (cwV 1 hts (gV_G k791 k438 k439 k3 k440) rfl rfl rfl (by decide +kernel) ⟨Nat.le_of_ble_eq_true rfl, Nat.le_of_ble_eq_true rfl⟩) ⟨fun a U g mk q => by obtain ⟨q0, q1, qP, qK, qM⟩ := q; exact ⟨q0, q1, qP, va_K.moved (u := U) (U := U.calling g mk a) (Vm.Alike.refl U.vm) qK, qM⟩, va_recv hK hP (ci := 4) (q0 := q2) rfl ((fw_get (by omega)).trans (by rw [(sE_rowO hq2)])), fun U hU hW => ⟨rfl, by rw [hU], by rw [hU]; exact hP, va_K.moved hW.alike hK, xM_warm hW hM⟩⟩ rfl rfl hl.1 rfl (lv_room (Nat.le_of_ble_eq_true rfl)) dX0_fuseNext_139 ⟨Nat.le_of_ble_eq_true rfl, Nat.le_of_ble_eq_true rfl⟩) hS (fun q _ h => fA_le hS.1 q h) (fA_le hS.1) (fun r9 u9 t9 H1 locs ht9 hvm9 hw9 hB9 hz9 hk9 hS => ?_)
      obtain ⟨μa, ra⟩ := u9
      obtain ⟨hP, -⟩ := hB9
      rw [ht9] at hP
      generalize H1 = H at hP hS ⊢
      obtain ⟨e9, hw9⟩ := hw9
      have e9 : r9 = iZ ra := e9
      subst e9
      simp only at hP hw9
      have hμa := hw9; clear hw9
      rw [hμa.1] at hP; have hμa := hμa.2
      have hra := hμa
      refine fz_put (D := (dC, dI)) (ci := 0) (ty := .int) (z := ra) (C := RX0) (T := TX0) (N := 7) hx hb hts inG0 tyX0 tyX0_ok nmX0 hown hK hP fA_in hS (k := 41) (by decide) (F := (sF41 h0)) sE_41 rfl 5 (by decide) (hts _ k187) (fun _ h9 => h9) rfl (by decide +kernel) rfl rfl (fun _ => Nat.le_of_ble_eq_true rfl) (fun _ _ => rfl) dX0_fuseNext_142 (fun H locs hP hS => ?_)
      obtain ⟨μ4, eμ4⟩ : ∃ x : va_M, x = uz μ3 41 5 (ra) := ⟨_, rfl⟩
      rw [← eμ4] at hP
      refine lv_goto (tgt := 194) hx hb dX0_fuseNext_145 (by decide) ?_
      exact W.vret hx hb hr (fun t9 ht9 hW9 => ⟨⟨μ4, rfl, (by
                    try dsimp only
                    have F5 : fr (BQ q3) μ μ4 := by rw [eμ4, eμ3]; exact fr_uz (fr_uz (fr_mono f1_ (fun x y h => Or.inl h)) (Or.inr ⟨rfl, by decide, by decide⟩)) (Or.inr ⟨rfl, by decide, by decide⟩)
                    have XB : ag μ μ4 q := ag_BQ hq ha3 F5
                    have XB2 : ag μ μ4 q2 := ag_BQ hq2 ha32 F5
                    have A4 : μ4 41 4 = μ 41 4 + (μ (q2 + 2) (μ 41 5).toNat - μ 41 5 - 1) := by
                      rw [eμ4, eμ3, uz_n (by decide), uz_s]
                      omega
                    have A5 : μ4 41 5 = μ (q2 + 2) (μ 41 5).toNat + 1 := by
                      rw [eμ4, eμ3, uz_s]
                      omega
                    refine ⟨F5, by rw [eμ4, eμ3, uz_n (by decide), uz_n (by decide)]; exact f1_ _ _ (n41 hq3), by rw [vis_eq XB XB2, A4, A5]; exact y3_, ?_, by omega⟩
                    rw [A4, ag_E XB]
                    refine outS_at (of_w hq3 rfl (of_w hq3 rfl o1_ rfl) (by rw [eμ4, eμ3])) ?_
                    · have h9 := y4_.2.1
                      omega), by rw [ht9]; exact hP, va_K.moved hW9.alike hK⟩, hS.F ht9⟩) hS.2.2 dX0_fuseNext_194
  · have h2w : μ 41 4 < μ q 5 ∧ (μ (q + 1) (μ 41 4).toNat = 513 ∨ μ (q + 1) (μ 41 4).toNat = 514) ∧ sMat μ (q + 1) (μ 41 4 + 1) (μ q 5) (q2 + 1) (μ 41 5) (μ q2 5) (μ (q + 2) (μ 41 4).toNat - μ 41 4 - 1) := by
      rcases hw with h | h | h | h | h | h
      · exact absurd h.1 (by omega)
      · exact absurd h.1 (by omega)
      · exact h.2
      · exact absurd h.1 (by omega)
      · exact absurd h.1 (by omega)
      · exact absurd h.1 (by omega)
    obtain ⟨u1_, u2_, u3_⟩ := h2w
    obtain ⟨y1_, y2_, y3_, y4_⟩ := vis_2 hG hG2 hv u1_ u2_ u3_
    have u4_ := u3_.1
    have y5_ := y3_.1
    refine lv_aload_n hx hb dX0_fuseNext_5 rfl (lv_at hl 1 rfl) ?_
    refine fz_get (D := (dC, dI)) (ci := 4) (v := .ref (h0 + (q + 2))) (C := RX4) (T := TX4) (N := 8) hx hb hts inG4 hown hK hP (k := q) (by omega) (F := (sRF h0 q)) (sE_rowO hq) rfl 1 (by decide) (hts _ k85) (fun _ h9 => h9) rfl dX0_fuseNext_6 ?_
    refine lv_aload_n hx hb dX0_fuseNext_9 rfl (lv_at hl 0 rfl) ?_
    refine fz_get (D := (dC, dI)) (ci := 0) (v := .int (iZ (μ 41 4))) (C := RX0) (T := TX0) (N := 7) hx hb hts inG0 hown hK hP (k := 41) (by decide) (F := (sF41 h0)) sE_41 rfl 4 (by decide) (hts _ k186) (fun _ h9 => h9) rfl dX0_fuseNext_10 ?_
    refine fz_ld (k := (q + 2)) (n := rm) hx hb hK hP 0 (by omega) (sE_rowA (r := 2) hq (by decide)) rfl ⟨by omega, by omega⟩ (by omega) dX0_fuseNext_13 ?_
    refine lv_aload_n hx hb dX0_fuseNext_14 rfl (lv_at hl 0 rfl) ?_
    refine fz_get (D := (dC, dI)) (ci := 0) (v := .int (iZ (μ 41 4))) (C := RX0) (T := TX0) (N := 7) hx hb hts inG0 hown hK hP (k := 41) (by decide) (F := (sF41 h0)) sE_41 rfl 4 (by decide) (hts _ k186) (fun _ h9 => h9) rfl dX0_fuseNext_15 ?_
    refine lv_isub hx hb dX0_fuseNext_18 ?_
    refine lv_topi (fun x9 ex9 => ?_)
    obtain rfl : x9 = iZ ((μ (q + 2) (μ 41 4).toNat) - (μ 41 4)) := ex9.trans (iZ_sub _ _)
    refine lv_iconst (v := iZ 1) hx hb dX0_fuseNext_19 rfl ?_
    refine lv_isub hx hb dX0_fuseNext_20 ?_
    refine lv_topi (fun x9 ex9 => ?_)
    obtain rfl : x9 = iZ (((μ (q + 2) (μ 41 4).toNat) - (μ 41 4)) - 1) := ex9.trans (iZ_sub _ _)
    refine lv_istore (lv' := [(5, .int (iZ (((μ (q + 2) (μ 41 4).toNat) - (μ 41 4)) - 1))), (0, .ref (h0 + 41)), (1, .ref (h0 + q)), (2, .ref (h0 + q2)), (3, .int (iZ (wy))), (4, .ref (h0 + q3))]) hx hb dX0_fuseNext_21 hl (by decide) rfl (fun ls hl => ?_)
    refine lv_aload_n hx hb dX0_fuseNext_23 rfl (lv_at hl 2 rfl) ?_
    refine lv_aload_n hx hb dX0_fuseNext_24 rfl (lv_at hl 1 rfl) ?_
    refine fz_get (D := (dC, dI)) (ci := 0) (v := .int (iZ (μ 41 4))) (C := RX0) (T := TX0) (N := 7) hx hb hts inG0 hown hK hP (k := 41) (by decide) (F := (sF41 h0)) sE_41 rfl 4 (by decide) (hts _ k186) (fun _ h9 => h9) rfl dX0_fuseNext_25 ?_
    refine lv_iconst (v := iZ 1) hx hb dX0_fuseNext_28 rfl ?_
    refine lv_iadd hx hb dX0_fuseNext_29 ?_
    refine lv_topi (fun x9 ex9 => ?_)
    obtain rfl : x9 = iZ ((μ 41 4) + 1) := ex9.trans (iZ_add _ _)
    refine lv_aload_n hx hb dX0_fuseNext_30 rfl (lv_at hl 3 rfl) ?_
    refine lv_aload_n hx hb dX0_fuseNext_31 rfl (lv_at hl 1 rfl) ?_
    refine fz_get (D := (dC, dI)) (ci := 0) (v := .int (iZ (μ 41 5))) (C := RX0) (T := TX0) (N := 7) hx hb hts inG0 hown hK hP (k := 41) (by decide) (F := (sF41 h0)) sE_41 rfl 5 (by decide) (hts _ k187) (fun _ h9 => h9) rfl dX0_fuseNext_32 ?_
    refine lv_iload hx hb dX0_fuseNext_35 (lv_at hl 0 rfl) ?_
    refine lv_aload_n hx hb dX0_fuseNext_37 rfl (lv_at hl 2 rfl) ?_
    refine fz_get (D := (dC, dI)) (ci := 4) (v := .ref (h0 + (q + 1))) (C := RX4) (T := TX4) (N := 8) hx hb hts inG4 hown hK hP (k := q) (by omega) (F := (sRF h0 q)) (sE_rowO hq) rfl 0 (by decide) (hts _ k80) (fun _ h9 => h9) rfl dX0_fuseNext_38 ?_
    refine lv_aload_n hx hb dX0_fuseNext_41 rfl (lv_at hl 1 rfl) ?_
    refine fz_get (D := (dC, dI)) (ci := 0) (v := .int (iZ (μ 41 4))) (C := RX0) (T := TX0) (N := 7) hx hb hts inG0 hown hK hP (k := 41) (by decide) (F := (sF41 h0)) sE_41 rfl 4 (by decide) (hts _ k186) (fun _ h9 => h9) rfl dX0_fuseNext_42 ?_
    refine fz_ld (k := (q + 1)) (n := rm) hx hb hK hP 0 (by omega) (sE_rowA (r := 1) hq (by decide)) rfl ⟨by omega, by omega⟩ (by omega) dX0_fuseNext_45 ?_
    refine lv_aload hx hb dX0_fuseNext_46 (lv_at hl 5 rfl) ?_
    refine va_callv (va_runS (As := [.ref (h0 + q), .int (iZ ((μ 41 4) + 1)), .ref (h0 + q2), .int (iZ (μ 41 5)), .int (iZ (((μ (q + 2) (μ 41 4).toNat) - (μ 41 4)) - 1)), .int (iZ (μ (q + 1) (μ 41 4).toNat)), .ref (h0 + q3)]) (rest := []) ⟨hx, hb, hml, hown, hts⟩ (s_YputFused l dC dI cI cZ cII cIII h0 s.heap.size μ (q) (rm) (q2) (rm2) (q3) (rm3) ((μ 41 4) + 1) (μ 41 5) (((μ (q + 2) (μ 41 4).toNat) - (μ 41 4)) - 1) (μ (q + 1) (μ 41 4).toNat) (Dp (μ (q + 1)) (μ 41 4).toNat) (hq) (hq2) (hq3) (by exact ha3) (by exact ha32) (by first | assumption | omega | exact ⟨by omega, by omega⟩) (by first | assumption | omega | exact ⟨by omega, by omega⟩) (by first | assumption | omega | exact ⟨by omega, by omega⟩) (by omega) (by intro t ht; exact u3_.2 t ht) (by exact y4_) (by exact u2_) (by omega) (by exact ho)) (cwS 7 hts (gS_G k832 k833 k7 k834) rfl rfl rfl (by decide +kernel) ⟨Nat.le_of_ble_eq_true rfl, Nat.le_of_ble_eq_true rfl⟩) ⟨fun a U g mk q => by obtain ⟨q0, q1, qP, qK, qM⟩ := q; exact ⟨q0, q1, qP, va_K.moved (u := U) (U := U.calling g mk a) (Vm.Alike.refl U.vm) qK, qM⟩, fun U hU hW => ⟨rfl, by rw [hU], by rw [hU]; exact hP, va_K.moved hW.alike hK, xM_warm hW hM⟩⟩ rfl rfl hl.1 rfl (lv_room (Nat.le_of_ble_eq_true rfl)) dX0_fuseNext_48 ⟨Nat.le_of_ble_eq_true rfl, Nat.le_of_ble_eq_true rfl⟩) hS (fun q _ h => fA_le hS.1 q h) (fA_le hS.1) (fun u9 t9 H1 locs ht9 hvm9 hw9 hB9 hz9 hk9 hS => ?_)
    obtain ⟨hP, -⟩ := hB9
    rw [ht9] at hP
    generalize H1 = H at hP hS ⊢
    obtain ⟨μp, eμp⟩ : ∃ x : va_M, x = u9 := ⟨_, rfl⟩
    rw [← eμp] at hP hw9
    have hμp := hw9; clear hw9
    obtain ⟨o1_, f1_⟩ := hμp
    have w4 : μp 41 4 = μ 41 4 := f1_ _ _ (n41 hq3)
    have w5 : μp 41 5 = μ 41 5 := f1_ _ _ (n41 hq3)
    have wm : μp (q + 2) (μ 41 4).toNat = μ (q + 2) (μ 41 4).toNat := ag_2 ha3 f1_ _ _ (by omega) (by omega)
    have wm2 : μp (q + 2) (μp 41 4).toNat = μ (q + 2) (μ 41 4).toNat := by rw [w4]; exact wm
    refine lv_aload_n hx hb dX0_fuseNext_51 rfl (lv_at hl 1 rfl) ?_
    refine lv_aload_n hx hb dX0_fuseNext_52 rfl (lv_at hl 2 rfl) ?_
    refine lv_aload_n hx hb dX0_fuseNext_53 rfl (lv_at hl 1 rfl) ?_
    refine fz_get (D := (dC, dI)) (ci := 0) (v := .int (iZ (μp 41 4))) (C := RX0) (T := TX0) (N := 7) hx hb hts inG0 hown hK hP (k := 41) (by decide) (F := (sF41 h0)) sE_41 rfl 4 (by decide) (hts _ k186) (fun _ h9 => h9) rfl dX0_fuseNext_54 ?_
    refine va_calli (va_runV (As := [.int (iZ (μp 41 4))]) (rest := [.ref (h0 + 41)]) ⟨hx, hb, hml, hown, hts⟩ (s_Rafter l dC dI cI cZ cII cIII h0 H.size μp (q) (rm) (μp 41 4) (hq) (by omega) (by constructor <;> omega)) (cwV 1 hts (gV_G k791 k438 k439 k3 k440) rfl rfl rfl (by decide +kernel) ⟨Nat.le_of_ble_eq_true rfl, Nat.le_of_ble_eq_true rfl⟩) ⟨fun a U g mk q => by obtain ⟨q0, q1, qP, qK, qM⟩ := q; exact ⟨q0, q1, qP, va_K.moved (u := U) (U := U.calling g mk a) (Vm.Alike.refl U.vm) qK, qM⟩, va_recv hK hP (ci := 4) (q0 := q) rfl ((fw_get (by omega)).trans (by rw [(sE_rowO hq)])), fun U hU hW => ⟨rfl, by rw [hU], by rw [hU]; exact hP, va_K.moved hW.alike hK, xM_warm hW hM⟩⟩ rfl rfl hl.1 rfl (lv_room (Nat.le_of_ble_eq_true rfl)) dX0_fuseNext_57 ⟨Nat.le_of_ble_eq_true rfl, Nat.le_of_ble_eq_true rfl⟩) hS (fun q _ h => fA_le hS.1 q h) (fA_le hS.1) (fun r9 u9 t9 H1 locs ht9 hvm9 hw9 hB9 hz9 hk9 hS => ?_)
    obtain ⟨μa, ra⟩ := u9
    obtain ⟨hP, -⟩ := hB9
    rw [ht9] at hP
    generalize H1 = H at hP hS ⊢
    obtain ⟨e9, hw9⟩ := hw9
    have e9 : r9 = iZ ra := e9
    subst e9
    simp only at hP hw9
    have hμa := hw9; clear hw9
    rw [hμa.1] at hP; have hμa := hμa.2
    have hra := hμa
    refine fz_put (D := (dC, dI)) (ci := 0) (ty := .int) (z := ra) (C := RX0) (T := TX0) (N := 7) hx hb hts inG0 tyX0 tyX0_ok nmX0 hown hK hP fA_in hS (k := 41) (by decide) (F := (sF41 h0)) sE_41 rfl 4 (by decide) (hts _ k186) (fun _ h9 => h9) rfl (by decide +kernel) rfl rfl (fun _ => Nat.le_of_ble_eq_true rfl) (fun _ _ => rfl) dX0_fuseNext_60 (fun H locs hP hS => ?_)
    obtain ⟨μ5, eμ5⟩ : ∃ x : va_M, x = uz μp 41 4 (ra) := ⟨_, rfl⟩
    rw [← eμ5] at hP
    refine lv_aload_n hx hb dX0_fuseNext_63 rfl (lv_at hl 1 rfl) ?_
    refine lv_dup hx hb dX0_fuseNext_64 rfl ?_
    refine fz_get (D := (dC, dI)) (ci := 0) (v := .int (iZ (μ5 41 5))) (C := RX0) (T := TX0) (N := 7) hx hb hts inG0 hown hK hP (k := 41) (by decide) (F := (sF41 h0)) sE_41 rfl 5 (by decide) (hts _ k187) (fun _ h9 => h9) rfl dX0_fuseNext_65 ?_
    rw [show μ5 41 5 = μp 41 5 from by rw [eμ5, uz_n (by omega)]]
    refine lv_iload hx hb dX0_fuseNext_68 (lv_at hl 0 rfl) ?_
    refine lv_iadd hx hb dX0_fuseNext_70 ?_
    refine lv_topi (fun x9 ex9 => ?_)
    obtain rfl : x9 = iZ ((μp 41 5) + (((μ (q + 2) (μ 41 4).toNat) - (μ 41 4)) - 1)) := ex9.trans (iZ_add _ _)
    refine fz_put (D := (dC, dI)) (ci := 0) (ty := .int) (z := ((μp 41 5) + (((μ (q + 2) (μ 41 4).toNat) - (μ 41 4)) - 1))) (C := RX0) (T := TX0) (N := 7) hx hb hts inG0 tyX0 tyX0_ok nmX0 hown hK hP fA_in hS (k := 41) (by decide) (F := (sF41 h0)) sE_41 rfl 5 (by decide) (hts _ k187) (fun _ h9 => h9) rfl (by decide +kernel) rfl rfl (fun _ => Nat.le_of_ble_eq_true rfl) (fun _ _ => rfl) dX0_fuseNext_71 (fun H locs hP hS => ?_)
    obtain ⟨μ6, eμ6⟩ : ∃ x : va_M, x = uz μ5 41 5 ((μp 41 5) + (((μ (q + 2) (μ 41 4).toNat) - (μ 41 4)) - 1)) := ⟨_, rfl⟩
    rw [← eμ6] at hP
    refine lv_goto (tgt := 194) hx hb dX0_fuseNext_74 (by decide) ?_
    exact W.vret hx hb hr (fun t9 ht9 hW9 => ⟨⟨μ6, rfl, (by
                try dsimp only
                have F5 : fr (BQ q3) μ μ6 := by rw [eμ6, eμ5]; exact fr_uz (fr_uz (fr_mono f1_ (fun x y h => Or.inl h)) (Or.inr ⟨rfl, by decide, by decide⟩)) (Or.inr ⟨rfl, by decide, by decide⟩)
                have XB : ag μ μ6 q := ag_BQ hq ha3 F5
                have XB2 : ag μ μ6 q2 := ag_BQ hq2 ha32 F5
                have A4 : μ6 41 4 = μ (q + 2) (μ 41 4).toNat + 1 := by
                  rw [eμ6, eμ5, uz_n (by decide), uz_s]
                  omega
                have A5 : μ6 41 5 = μ 41 5 + (μ (q + 2) (μ 41 4).toNat - μ 41 4 - 1) := by
                  rw [eμ6, eμ5, uz_s]
                  omega
                refine ⟨F5, by rw [eμ6, eμ5, uz_n (by decide), uz_n (by decide)]; exact f1_ _ _ (n41 hq3), by rw [vis_eq XB XB2, A4, A5]; exact y3_, ?_, by omega⟩
                rw [A4, ag_E XB]
                refine outS_at (of_w hq3 rfl (of_w hq3 rfl o1_ rfl) (by rw [eμ6, eμ5])) ?_
                · have hseg := vis_4 hG hv u1_ (by omega)
                  have h8 := hseg.2.2.2.2.2
                  have h7 := hv.2.2.2
                  omega), by rw [ht9]; exact hP, va_K.moved hW9.alike hK⟩, hS.F ht9⟩) hS.2.2 dX0_fuseNext_194
set_option maxHeartbeats 4000000 in
set_option maxRecDepth 100000 in
theorem LX0_build_22 {p : Program} {l : Launch} {e : Env} {R : Room} {s : State} {m : MethodId} {args : Array Value} {below : List Frame} {meth : Method} {c : Code} {cells slots : Nat} {Q : State → Prop} {dC : Nat → ClassId} {dI : Nat → Nat → Nat} {h0 : Nat} {cI cZ cII cIII : ClassId} (hx : p.tables.exec = Jvm.exec) (hb : c.code = cX0_build) (hml : c.maxLocals = 6) (hown : s.vm.findClass RX0 = some m.cls) (hts : ∀ w ∈ wsG, w.before args s = true) (hK : va_K (dC, dI) vwCl (sT cI cZ cII cIII) s) (hM : xM s) (hRf : 4 ≤ R.frames) (hRl : 87 ≤ R.locals) (hRc : cells ≤ R.cells) (hRs : slots ≤ R.slots) (μ0 : va_M) (q : Nat) (rm : Nat) (q2 : Nat) (rm2 : Nat) (q3 : Nat) (rm3 : Nat) (hq : rowB q rm) (hq2 : rowB q2 rm2) (hq3 : rowB q3 rm3) (ha3 : apart q3 q) (ha32 : apart q3 q2) (hG : rG μ0 q rm) (hG2 : rG μ0 q2 rm2) (h96 : rm2 = 96) (hLK : LK μ0 q q2) (hexit165 : ∀ (tu : Int) (μ : va_M) (H : Heap) (locs : List Loc) (ls : Array Slot), (fr (BQ q3) μ0 μ) → (outS μ q3 rm3 (gI (μ 41 6))) → (gOK (μ 41 6)) → va_P (dC, dI) vwCl (fw (sE cI cZ cII cIII h0) h0 233 μ) H → va_S (fA h0 233 s.heap.size) s.heap H locs → lv_has ls 6 [(3, .ref (h0 + q3)), (0, .ref (h0 + 41))] → W p l e R s m args below meth c H locs cells slots Q (F0 m 165 ls [])) :
    ∀ (n9 : Nat) (tu : Int) (μ : va_M) (H : Heap) (locs : List Loc) (ls : Array Slot), (0 ≤ tu ∧ tu ≤ μ 41 4 + μ 41 5) → (fr (BQ q3) μ0 μ) → (bS μ q q2 q3 rm3) → (1000000 - tu).toNat < n9 → va_P (dC, dI) vwCl (fw (sE cI cZ cII cIII h0) h0 233 μ) H → va_S (fA h0 233 s.heap.size) s.heap H locs → lv_has ls 6 [(4, .int (iZ (tu))), (3, .ref (h0 + q3)), (2, .ref (h0 + q2)), (1, .ref (h0 + q)), (0, .ref (h0 + 41))] → W p l e R s m args below meth c H locs cells slots Q (F0 m 22 ls []) := by
  intro n9
  induction n9 with
  | zero => intro tu μ H locs ls ht hf hbs hm9 hP hS hl; exact absurd hm9 (Nat.not_lt_zero _)
  | succ n9 ih =>
    intro tu μ H locs ls ht hf hbs hm9 hP hS hl
    have hrm := rG_rc hq hG
    have hrm2 := rG_rc hq2 hG2
    have hqb := rowB_c hq
    have hqb2 := rowB_c hq2
    have hqb3 := rowB_c hq3
    have xa : ag μ0 μ q := ag_BQ hq ha3 hf
    have xa2 : ag μ0 μ q2 := ag_BQ hq2 ha32 hf
    have x5 := ag_5 xa
    have x25 := ag_5 xa2
    have xst : μ 41 3 = μ0 41 3 := BQ_41 hq3 (by decide) hf
    have hG1 : rG μ q rm := rG_fr hG xa
    have hG21 : rG μ q2 rm2 := rG_fr hG2 xa2
    have hbs2 := hbs
    obtain ⟨hv1, hg1, ho1⟩ := hbs2
    have hv0 := hv1.1
    have hgb := gI_b (μ 41 6)
    have hg2 : 0 ≤ μ 41 6 ∧ μ 41 6 ≤ 5 := by unfold gOK at hg1; omega
    refine lv_iload hx hb dX0_build_22 (lv_at hl 0 rfl) ?_
    refine lv_ldc (v := iZ 1000000) hx hb hown (hts _ k818) dX0_build_24 ?_
    refine fz_icmp_ge (tgt := 165) (by constructor <;> omega) (by decide) hx hb dX0_build_26 (by decide) (fun c26_ => ?_) (fun c26_ => ?_)
    · exact hexit165 (tu) μ H locs ls (by exact hf) (by
                    exfalso
                    omega) (by exact hg1) hP hS (lv_sub hl [1, 4] rfl)
    · refine lv_aload_n hx hb dX0_build_29 rfl (lv_at hl 4 rfl) ?_
      refine fz_get (D := (dC, dI)) (ci := 0) (v := .int (iZ (μ 41 4))) (C := RX0) (T := TX0) (N := 7) hx hb hts inG0 hown hK hP (k := 41) (by decide) (F := (sF41 h0)) sE_41 rfl 4 (by decide) (hts _ k186) (fun _ h9 => h9) rfl dX0_build_30 ?_
      refine lv_aload_n hx hb dX0_build_33 rfl (lv_at hl 3 rfl) ?_
      refine fz_get (D := (dC, dI)) (ci := 4) (v := .int (iZ (μ q 5))) (C := RX4) (T := TX4) (N := 8) hx hb hts inG4 hown hK hP (k := q) (by omega) (F := (sRF h0 q)) (sE_rowO hq) rfl 5 (by decide) (hts _ k94) (fun _ h9 => h9) rfl dX0_build_34 ?_
      refine fz_icmp_lt (tgt := 51) (by constructor <;> omega) (by constructor <;> omega) hx hb dX0_build_37 (by decide) (fun c37_ => ?_) (fun c37_ => ?_)
      · have hst := hLK.1
        have hvz : vis μ0 q q2 (μ 41 4) (μ 41 5) := by rw [← vis_eq xa xa2]; exact hv1
        have hco := hLK.2 _ _ hvz
        have x42 : ∀ y, μ 42 y = μ0 42 y := fun y => BQ_42 hq3 hf
        rw [← xst, ← x42, ← cO_eq xa xa2] at hco
        have hcb := hco.1
        unfold bnd at hcb
        have ml := mulC (i := μ 41 4) (s := μ 41 3) (by omega) (by omega) (by omega) (by omega)
        have hsa := hG1.1 (μ 41 4).toNat
        have hne : μ 41 4 < μ q 5 ∨ μ 41 5 < μ q2 5 := by omega
        refine lv_aload_n hx hb dX0_build_51 rfl (lv_at hl 4 rfl) ?_
        refine fz_get (D := (dC, dI)) (ci := 0) (v := .ref (h0 + 42)) (C := RX0) (T := TX0) (N := 7) hx hb hts inG0 hown hK hP (k := 41) (by decide) (F := (sF41 h0)) sE_41 rfl 0 (by decide) (hts _ k182) (fun _ h9 => h9) rfl dX0_build_52 ?_
        refine lv_aload_n hx hb dX0_build_55 rfl (lv_at hl 4 rfl) ?_
        refine fz_get (D := (dC, dI)) (ci := 0) (v := .int (iZ (μ 41 4))) (C := RX0) (T := TX0) (N := 7) hx hb hts inG0 hown hK hP (k := 41) (by decide) (F := (sF41 h0)) sE_41 rfl 4 (by decide) (hts _ k186) (fun _ h9 => h9) rfl dX0_build_56 ?_
        refine lv_aload_n hx hb dX0_build_59 rfl (lv_at hl 4 rfl) ?_
        refine fz_get (D := (dC, dI)) (ci := 0) (v := .int (iZ (μ 41 3))) (C := RX0) (T := TX0) (N := 7) hx hb hts inG0 hown hK hP (k := 41) (by decide) (F := (sF41 h0)) sE_41 rfl 3 (by decide) (hts _ k185) (fun _ h9 => h9) rfl dX0_build_60 ?_
        refine lv_imul hx hb dX0_build_63 ?_
        refine lv_topi (fun x9 ex9 => ?_)
        obtain rfl : x9 = iZ ((μ 41 4) * (μ 41 3)) := ex9.trans (iZ_mul _ _)
        refine lv_aload_n hx hb dX0_build_64 rfl (lv_at hl 4 rfl) ?_
        refine fz_get (D := (dC, dI)) (ci := 0) (v := .int (iZ (μ 41 5))) (C := RX0) (T := TX0) (N := 7) hx hb hts inG0 hown hK hP (k := 41) (by decide) (F := (sF41 h0)) sE_41 rfl 5 (by decide) (hts _ k187) (fun _ h9 => h9) rfl dX0_build_65 ?_
        refine lv_iadd hx hb dX0_build_68 ?_
        refine lv_topi (fun x9 ex9 => ?_)
        obtain rfl : x9 = iZ (((μ 41 4) * (μ 41 3)) + (μ 41 5)) := ex9.trans (iZ_add _ _)
        refine fz_ld (k := 42) (n := 106797) hx hb hK hP 0 (by decide) sE_42 rfl ⟨by omega, by omega⟩ (by decide) dX0_build_69 ?_
        refine lv_iconst (v := iZ 1) hx hb dX0_build_70 rfl ?_
        refine lv_ishr hx hb dX0_build_71 ?_
        refine lv_topi (fun x9 ex9 => ?_)
        obtain ⟨z1, rfl, hz1⟩ := iZ_ex x9
        have ez1 := ex9; clear ex9
        have hs1 := shr1 hz1 (by constructor <;> omega) ez1
        refine lv_bipush (v := iZ 7) hx hb dX0_build_72 rfl ?_
        refine lv_iand hx hb dX0_build_74 ?_
        refine lv_topi (fun x9 ex9 => ?_)
        obtain ⟨z2, rfl, hz2⟩ := iZ_ex x9
        have ez2 := ex9; clear ex9
        have hs7 := and7 hz2 (by omega) ez2
        have hww := hco.2
        rw [← hs1, ← hs7] at hww
        have hwb : 0 ≤ z2 ∧ z2 ≤ 7 := by omega
        refine lv_istore (lv' := [(5, .int (iZ (z2))), (4, .int (iZ (tu))), (3, .ref (h0 + q3)), (2, .ref (h0 + q2)), (1, .ref (h0 + q)), (0, .ref (h0 + 41))]) hx hb dX0_build_75 hl (by decide) rfl (fun ls hl => ?_)
        refine lv_aload_n hx hb dX0_build_77 rfl (lv_at hl 5 rfl) ?_
        refine fz_get (D := (dC, dI)) (ci := 0) (v := .int (iZ (μ 41 6))) (C := RX0) (T := TX0) (N := 7) hx hb hts inG0 hown hK hP (k := 41) (by decide) (F := (sF41 h0)) sE_41 rfl 6 (by decide) (hts _ k188) (fun _ h9 => h9) rfl dX0_build_78 ?_
        refine fz_if_eq (tgt := 126) (by constructor <;> omega) hx hb dX0_build_81 (by decide) (fun c81_ => ?_) (fun c81_ => ?_)
        · have FN : fr (BQ q3) μ μ := fr_rfl
          have e4 : μ 41 4 = μ 41 4 := rfl
          have e5 : μ 41 5 = μ 41 5 := rfl
          have xb : ag μ μ q := ag_BQ hq ha3 FN
          have xb2 : ag μ μ q2 := ag_BQ hq2 ha32 FN
          have hGN : rG μ q rm := rG_fr hG1 xb
          have hG2N : rG μ q2 rm2 := rG_fr hG21 xb2
          have n5 := ag_5 xb
          have n25 := ag_5 xb2
          have nE := ag_E xb
          have nE2 := ag_E xb2
          refine lv_iload hx hb dX0_build_126 (lv_at hl 0 rfl) ?_
          refine lv_iconst (v := iZ 4) hx hb dX0_build_128 rfl ?_
          refine fz_icmp_eq (tgt := 138) (by constructor <;> omega) (by decide) hx hb dX0_build_129 (by decide) (fun c129_ => ?_) (fun c129_ => ?_)
          · refine lv_aload_n hx hb dX0_build_138 rfl (lv_at hl 5 rfl) ?_
            refine lv_aload_n hx hb dX0_build_139 rfl (lv_at hl 4 rfl) ?_
            refine lv_aload_n hx hb dX0_build_140 rfl (lv_at hl 3 rfl) ?_
            refine lv_iload hx hb dX0_build_141 (lv_at hl 0 rfl) ?_
            refine lv_aload_n hx hb dX0_build_143 rfl (lv_at hl 2 rfl) ?_
            refine va_callv (va_runV (As := [.ref (h0 + q), .ref (h0 + q2), .int (iZ (z2)), .ref (h0 + q3)]) (rest := []) ⟨hx, hb, hml, hown, hts⟩ (s_YleaveOut l dC dI cI cZ cII cIII h0 H.size μ (q) (rm) (q2) (rm2) (q3) (rm3) (z2) (hq) (hq2) (hq3) (by exact ha3) (by exact ha32) (by exact hGN) (by exact hG2N) (by exact h96) (by exact hbs) (by
                                rcases hww with h | h | h | h | h | h
                                · exact absurd h.1 (by omega)
                                · exact absurd h.1 (by omega)
                                · exact absurd h.1 (by omega)
                                · exact absurd h.1 (by omega)
                                · exact Or.inl ⟨h.1, h.2.1, h.2.2⟩
                                · exact Or.inr ⟨h.1, h.2.1, h.2.2⟩)) (cwV 4 hts (gV_G k820 k822 ks_yX0_leaveOut k7 k823) rfl rfl rfl (by decide +kernel) ⟨by show 3 + 1 ≤ _; omega, by show 8 + (8 + 11) + (59) ≤ _; omega⟩) ⟨fun a U g mk q => by obtain ⟨q0, q1, qP, qK, qM⟩ := q; exact ⟨q0, q1, qP, va_K.moved (u := U) (U := U.calling g mk a) (Vm.Alike.refl U.vm) qK, qM⟩, va_recv hK hP (ci := 0) (q0 := 41) rfl ((fw_get (by decide)).trans (by rw [sE_41])), fun U hU hW => ⟨rfl, by rw [hU], by rw [hU]; exact hP, va_K.moved hW.alike hK, xM_warm hW hM⟩⟩ rfl rfl hl.1 rfl (lv_room (Nat.le_of_ble_eq_true rfl)) dX0_build_144 ⟨hRc, hRs⟩) hS (fun q _ h => fA_le hS.1 q h) (fA_le hS.1) (fun u9 t9 H1 locs ht9 hvm9 hw9 hB9 hz9 hk9 hS => ?_)
            obtain ⟨hP, -⟩ := hB9
            rw [ht9] at hP
            generalize H1 = H at hP hS ⊢
            obtain ⟨μl, eμl⟩ : ∃ x : va_M, x = u9 := ⟨_, rfl⟩
            rw [← eμl] at hP hw9
            have hμl := hw9; clear hw9
            obtain ⟨f2_, b2_, i2_⟩ := hμl
            refine lv_goto (tgt := 159) hx hb dX0_build_147 (by decide) ?_
            refine lv_iinc (v := iZ (tu + 1)) (lv' := [(4, .int (iZ (tu + 1))), (5, .int (iZ (z2))), (3, .ref (h0 + q3)), (2, .ref (h0 + q2)), (1, .ref (h0 + q)), (0, .ref (h0 + 41))]) hx hb dX0_build_159 hl (k := 1) rfl (iZ_add _ _) (by decide) rfl (fun ls hl => ?_)
            refine lv_goto (tgt := 22) hx hb dX0_build_162 (by decide) ?_
            exact ih (tu + 1) μl H locs ls (by omega) (by exact fr_trans hf (fr_trans FN f2_)) (by exact b2_) (by omega) hP hS (lv_sub hl [0, 2, 3, 4, 5] rfl)
          · refine lv_iload hx hb dX0_build_132 (lv_at hl 0 rfl) ?_
            refine lv_iconst (v := iZ 5) hx hb dX0_build_134 rfl ?_
            refine fz_icmp_ne (tgt := 150) (by constructor <;> omega) (by decide) hx hb dX0_build_135 (by decide) (fun c135_ => ?_) (fun c135_ => ?_)
            · refine lv_aload_n hx hb dX0_build_150 rfl (lv_at hl 5 rfl) ?_
              refine lv_aload_n hx hb dX0_build_151 rfl (lv_at hl 4 rfl) ?_
              refine lv_aload_n hx hb dX0_build_152 rfl (lv_at hl 3 rfl) ?_
              refine lv_iload hx hb dX0_build_153 (lv_at hl 0 rfl) ?_
              refine lv_aload_n hx hb dX0_build_155 rfl (lv_at hl 2 rfl) ?_
              refine va_callv (va_runV (As := [.ref (h0 + q), .ref (h0 + q2), .int (iZ (z2)), .ref (h0 + q3)]) (rest := []) ⟨hx, hb, hml, hown, hts⟩ (s_YfuseNext l dC dI cI cZ cII cIII h0 H.size μ (q) (rm) (q2) (rm2) (q3) (rm3) (z2) (hq) (hq2) (hq3) (by exact ha3) (by exact ha32) (by exact hGN) (by exact hG2N) (by exact h96) (by exact hv1) (by exact hww) (by omega) (by omega) (by
                                    have g0 : μ 41 6 = 0 := by unfold gOK at hg1; omega
                                    rw [g0, gI_0, Int.add_zero] at ho1
                                    exact ho1)) (cwV 4 hts (gV_G k828 k830 ks_yX0_fuseNext k7 k831) rfl rfl rfl (by decide +kernel) ⟨by show 3 + 1 ≤ _; omega, by show 8 + (6 + 11) + (62) ≤ _; omega⟩) ⟨fun a U g mk q => by obtain ⟨q0, q1, qP, qK, qM⟩ := q; exact ⟨q0, q1, qP, va_K.moved (u := U) (U := U.calling g mk a) (Vm.Alike.refl U.vm) qK, qM⟩, va_recv hK hP (ci := 0) (q0 := 41) rfl ((fw_get (by decide)).trans (by rw [sE_41])), fun U hU hW => ⟨rfl, by rw [hU], by rw [hU]; exact hP, va_K.moved hW.alike hK, xM_warm hW hM⟩⟩ rfl rfl hl.1 rfl (lv_room (Nat.le_of_ble_eq_true rfl)) dX0_build_156 ⟨hRc, hRs⟩) hS (fun q _ h => fA_le hS.1 q h) (fA_le hS.1) (fun u9 t9 H1 locs ht9 hvm9 hw9 hB9 hz9 hk9 hS => ?_)
              obtain ⟨hP, -⟩ := hB9
              rw [ht9] at hP
              generalize H1 = H at hP hS ⊢
              obtain ⟨μl, eμl⟩ : ∃ x : va_M, x = u9 := ⟨_, rfl⟩
              rw [← eμl] at hP hw9
              have hμl := hw9; clear hw9
              obtain ⟨f2_, f3_, v3_, o3_, i2_⟩ := hμl
              have g6_ : μl 41 6 = 0 := by unfold gOK at hg1; omega
              have b2_ : bS μl q q2 q3 rm3 := ⟨v3_, Or.inl g6_, by rw [g6_, gI_0, Int.add_zero]; exact o3_⟩
              refine lv_iinc (v := iZ (tu + 1)) (lv' := [(4, .int (iZ (tu + 1))), (5, .int (iZ (z2))), (3, .ref (h0 + q3)), (2, .ref (h0 + q2)), (1, .ref (h0 + q)), (0, .ref (h0 + 41))]) hx hb dX0_build_159 hl (k := 1) rfl (iZ_add _ _) (by decide) rfl (fun ls hl => ?_)
              refine lv_goto (tgt := 22) hx hb dX0_build_162 (by decide) ?_
              exact ih (tu + 1) μl H locs ls (by omega) (by exact fr_trans hf (fr_trans FN f2_)) (by exact b2_) (by omega) hP hS (lv_sub hl [0, 2, 3, 4, 5] rfl)
            · refine lv_aload_n hx hb dX0_build_138 rfl (lv_at hl 5 rfl) ?_
              refine lv_aload_n hx hb dX0_build_139 rfl (lv_at hl 4 rfl) ?_
              refine lv_aload_n hx hb dX0_build_140 rfl (lv_at hl 3 rfl) ?_
              refine lv_iload hx hb dX0_build_141 (lv_at hl 0 rfl) ?_
              refine lv_aload_n hx hb dX0_build_143 rfl (lv_at hl 2 rfl) ?_
              refine va_callv (va_runV (As := [.ref (h0 + q), .ref (h0 + q2), .int (iZ (z2)), .ref (h0 + q3)]) (rest := []) ⟨hx, hb, hml, hown, hts⟩ (s_YleaveOut l dC dI cI cZ cII cIII h0 H.size μ (q) (rm) (q2) (rm2) (q3) (rm3) (z2) (hq) (hq2) (hq3) (by exact ha3) (by exact ha32) (by exact hGN) (by exact hG2N) (by exact h96) (by exact hbs) (by
                                    rcases hww with h | h | h | h | h | h
                                    · exact absurd h.1 (by omega)
                                    · exact absurd h.1 (by omega)
                                    · exact absurd h.1 (by omega)
                                    · exact absurd h.1 (by omega)
                                    · exact Or.inl ⟨h.1, h.2.1, h.2.2⟩
                                    · exact Or.inr ⟨h.1, h.2.1, h.2.2⟩)) (cwV 4 hts (gV_G k820 k822 ks_yX0_leaveOut k7 k823) rfl rfl rfl (by decide +kernel) ⟨by show 3 + 1 ≤ _; omega, by show 8 + (8 + 11) + (59) ≤ _; omega⟩) ⟨fun a U g mk q => by obtain ⟨q0, q1, qP, qK, qM⟩ := q; exact ⟨q0, q1, qP, va_K.moved (u := U) (U := U.calling g mk a) (Vm.Alike.refl U.vm) qK, qM⟩, va_recv hK hP (ci := 0) (q0 := 41) rfl ((fw_get (by decide)).trans (by rw [sE_41])), fun U hU hW => ⟨rfl, by rw [hU], by rw [hU]; exact hP, va_K.moved hW.alike hK, xM_warm hW hM⟩⟩ rfl rfl hl.1 rfl (lv_room (Nat.le_of_ble_eq_true rfl)) dX0_build_144 ⟨hRc, hRs⟩) hS (fun q _ h => fA_le hS.1 q h) (fA_le hS.1) (fun u9 t9 H1 locs ht9 hvm9 hw9 hB9 hz9 hk9 hS => ?_)
              obtain ⟨hP, -⟩ := hB9
              rw [ht9] at hP
              generalize H1 = H at hP hS ⊢
              obtain ⟨μl, eμl⟩ : ∃ x : va_M, x = u9 := ⟨_, rfl⟩
              rw [← eμl] at hP hw9
              have hμl := hw9; clear hw9
              obtain ⟨f2_, b2_, i2_⟩ := hμl
              refine lv_goto (tgt := 159) hx hb dX0_build_147 (by decide) ?_
              refine lv_iinc (v := iZ (tu + 1)) (lv' := [(4, .int (iZ (tu + 1))), (5, .int (iZ (z2))), (3, .ref (h0 + q3)), (2, .ref (h0 + q2)), (1, .ref (h0 + q)), (0, .ref (h0 + 41))]) hx hb dX0_build_159 hl (k := 1) rfl (iZ_add _ _) (by decide) rfl (fun ls hl => ?_)
              refine lv_goto (tgt := 22) hx hb dX0_build_162 (by decide) ?_
              exact ih (tu + 1) μl H locs ls (by omega) (by exact fr_trans hf (fr_trans FN f2_)) (by exact b2_) (by omega) hP hS (lv_sub hl [0, 2, 3, 4, 5] rfl)
        · refine lv_iload hx hb dX0_build_84 (lv_at hl 0 rfl) ?_
          refine lv_aload_n hx hb dX0_build_86 rfl (lv_at hl 5 rfl) ?_
          refine fz_get (D := (dC, dI)) (ci := 0) (v := .int (iZ (μ 41 6))) (C := RX0) (T := TX0) (N := 7) hx hb hts inG0 hown hK hP (k := 41) (by decide) (F := (sF41 h0)) sE_41 rfl 6 (by decide) (hts _ k188) (fun _ h9 => h9) rfl dX0_build_87 ?_
          refine fz_icmp_ne (tgt := 114) (by constructor <;> omega) (by constructor <;> omega) hx hb dX0_build_90 (by decide) (fun c90_ => ?_) (fun c90_ => ?_)
          · refine lv_aload_n hx hb dX0_build_114 rfl (lv_at hl 2 rfl) ?_
            refine lv_sipush (v := iZ 515) hx hb dX0_build_115 rfl ?_
            refine va_callv (va_runV (As := [.int (iZ (515))]) (rest := []) ⟨hx, hb, hml, hown, hts⟩ (s_Rput l dC dI cI cZ cII cIII h0 H.size μ (q3) (rm3) (515) (hq3) (by exact ho1.1)) (cwV 1 hts (gV_G k819 k411 k412 k3 k413) rfl rfl rfl (by decide +kernel) ⟨by show 1 + 1 ≤ _; omega, by show 8 + (2 + 11) + (14) ≤ _; omega⟩) ⟨fun a U g mk q => by obtain ⟨q0, q1, qP, qK, qM⟩ := q; exact ⟨q0, q1, qP, va_K.moved (u := U) (U := U.calling g mk a) (Vm.Alike.refl U.vm) qK, qM⟩, va_recv hK hP (ci := 4) (q0 := q3) rfl ((fw_get (by omega)).trans (by rw [(sE_rowO hq3)])), fun U hU hW => ⟨rfl, by rw [hU], by rw [hU]; exact hP, va_K.moved hW.alike hK, xM_warm hW hM⟩⟩ rfl rfl hl.1 rfl (lv_room (Nat.le_of_ble_eq_true rfl)) dX0_build_118 ⟨hRc, hRs⟩) hS (fun q _ h => fA_le hS.1 q h) (fA_le hS.1) (fun u9 t9 H1 locs ht9 hvm9 hw9 hB9 hz9 hk9 hS => ?_)
            obtain ⟨hP, -⟩ := hB9
            rw [ht9] at hP
            generalize H1 = H at hP hS ⊢
            obtain ⟨μo, eμo⟩ : ∃ x : va_M, x = u9 := ⟨_, rfl⟩
            rw [← eμo] at hP hw9
            have hμo := hw9; clear hw9
            obtain ⟨c1, c2⟩ := hμo
            have hDn := ((rG_bal hG1).2 (μ 41 4).toNat (by omega)).1
            rw [gI_n (by omega)] at ho1
            obtain ⟨o1_, f1_⟩ := outS_put ho1 (s := 515) (by unfold vS; omega) (by rw [dl_m]; omega) c1 c2
            rw [dl_m] at o1_
            refine lv_aload_n hx hb dX0_build_121 rfl (lv_at hl 5 rfl) ?_
            refine lv_iconst (v := iZ 0) hx hb dX0_build_122 rfl ?_
            refine fz_put (D := (dC, dI)) (ci := 0) (ty := .int) (z := 0) (C := RX0) (T := TX0) (N := 7) hx hb hts inG0 tyX0 tyX0_ok nmX0 hown hK hP fA_in hS (k := 41) (by decide) (F := (sF41 h0)) sE_41 rfl 6 (by decide) (hts _ k188) (fun _ h9 => h9) rfl (by decide +kernel) rfl rfl (fun _ => Nat.le_of_ble_eq_true rfl) (fun _ _ => rfl) dX0_build_123 (fun H locs hP hS => ?_)
            obtain ⟨μ3, eμ3⟩ : ∃ x : va_M, x = uz μo 41 6 (0) := ⟨_, rfl⟩
            rw [← eμ3] at hP
            have FN : fr (BQ q3) μ μ3 := by rw [eμ3]; exact fr_uz (fr_mono f1_ (fun x y h => Or.inl h)) (Or.inr ⟨rfl, by decide, by decide⟩)
            have e6 : μ3 41 6 = 0 := by rw [eμ3, uz_s]
            have e4 : μ3 41 4 = μ 41 4 := by rw [eμ3, uz_n (by decide)]; exact f1_ _ _ (n41 hq3)
            have e5 : μ3 41 5 = μ 41 5 := by rw [eμ3, uz_n (by decide)]; exact f1_ _ _ (n41 hq3)
            have hoN : outS μ3 q3 rm3 (Dp (μ (q + 1)) (μ 41 4).toNat) := outS_at (of_w hq3 rfl o1_ (by rw [eμ3])) (by omega)
            have xb : ag μ μ3 q := ag_BQ hq ha3 FN
            have xb2 : ag μ μ3 q2 := ag_BQ hq2 ha32 FN
            have hGN : rG μ3 q rm := rG_fr hG1 xb
            have hG2N : rG μ3 q2 rm2 := rG_fr hG21 xb2
            have n5 := ag_5 xb
            have n25 := ag_5 xb2
            have nE := ag_E xb
            have nE2 := ag_E xb2
            refine lv_iload hx hb dX0_build_126 (lv_at hl 0 rfl) ?_
            refine lv_iconst (v := iZ 4) hx hb dX0_build_128 rfl ?_
            refine fz_icmp_eq (tgt := 138) (by constructor <;> omega) (by decide) hx hb dX0_build_129 (by decide) (fun c129_ => ?_) (fun c129_ => ?_)
            · refine lv_aload_n hx hb dX0_build_138 rfl (lv_at hl 5 rfl) ?_
              refine lv_aload_n hx hb dX0_build_139 rfl (lv_at hl 4 rfl) ?_
              refine lv_aload_n hx hb dX0_build_140 rfl (lv_at hl 3 rfl) ?_
              refine lv_iload hx hb dX0_build_141 (lv_at hl 0 rfl) ?_
              refine lv_aload_n hx hb dX0_build_143 rfl (lv_at hl 2 rfl) ?_
              refine va_callv (va_runV (As := [.ref (h0 + q), .ref (h0 + q2), .int (iZ (z2)), .ref (h0 + q3)]) (rest := []) ⟨hx, hb, hml, hown, hts⟩ (s_YleaveOut l dC dI cI cZ cII cIII h0 H.size μ3 (q) (rm) (q2) (rm2) (q3) (rm3) (z2) (hq) (hq2) (hq3) (by exact ha3) (by exact ha32) (by exact hGN) (by exact hG2N) (by exact h96) (by
                                    refine ⟨by rw [vis_eq xb xb2, e4, e5]; exact hv1, Or.inl e6, ?_⟩
                                    rw [e6, gI_0, Int.add_zero, nE, e4]
                                    exact hoN) (by
                                    rw [e4, e5, n5, n25, nE, nE2]
                                    rcases hww with h | h | h | h | h | h
                                    · exact absurd h.1 (by omega)
                                    · exact absurd h.1 (by omega)
                                    · exact absurd h.1 (by omega)
                                    · exact absurd h.1 (by omega)
                                    · exact Or.inl ⟨h.1, h.2.1, h.2.2⟩
                                    · exact Or.inr ⟨h.1, h.2.1, h.2.2⟩)) (cwV 4 hts (gV_G k820 k822 ks_yX0_leaveOut k7 k823) rfl rfl rfl (by decide +kernel) ⟨by show 3 + 1 ≤ _; omega, by show 8 + (8 + 11) + (59) ≤ _; omega⟩) ⟨fun a U g mk q => by obtain ⟨q0, q1, qP, qK, qM⟩ := q; exact ⟨q0, q1, qP, va_K.moved (u := U) (U := U.calling g mk a) (Vm.Alike.refl U.vm) qK, qM⟩, va_recv hK hP (ci := 0) (q0 := 41) rfl ((fw_get (by decide)).trans (by rw [sE_41])), fun U hU hW => ⟨rfl, by rw [hU], by rw [hU]; exact hP, va_K.moved hW.alike hK, xM_warm hW hM⟩⟩ rfl rfl hl.1 rfl (lv_room (Nat.le_of_ble_eq_true rfl)) dX0_build_144 ⟨hRc, hRs⟩) hS (fun q _ h => fA_le hS.1 q h) (fA_le hS.1) (fun u9 t9 H1 locs ht9 hvm9 hw9 hB9 hz9 hk9 hS => ?_)
              obtain ⟨hP, -⟩ := hB9
              rw [ht9] at hP
              generalize H1 = H at hP hS ⊢
              obtain ⟨μl, eμl⟩ : ∃ x : va_M, x = u9 := ⟨_, rfl⟩
              rw [← eμl] at hP hw9
              have hμl := hw9; clear hw9
              obtain ⟨f2_, b2_, i2_⟩ := hμl
              refine lv_goto (tgt := 159) hx hb dX0_build_147 (by decide) ?_
              refine lv_iinc (v := iZ (tu + 1)) (lv' := [(4, .int (iZ (tu + 1))), (5, .int (iZ (z2))), (3, .ref (h0 + q3)), (2, .ref (h0 + q2)), (1, .ref (h0 + q)), (0, .ref (h0 + 41))]) hx hb dX0_build_159 hl (k := 1) rfl (iZ_add _ _) (by decide) rfl (fun ls hl => ?_)
              refine lv_goto (tgt := 22) hx hb dX0_build_162 (by decide) ?_
              exact ih (tu + 1) μl H locs ls (by omega) (by exact fr_trans hf (fr_trans FN f2_)) (by exact b2_) (by omega) hP hS (lv_sub hl [0, 2, 3, 4, 5] rfl)
            · refine lv_iload hx hb dX0_build_132 (lv_at hl 0 rfl) ?_
              refine lv_iconst (v := iZ 5) hx hb dX0_build_134 rfl ?_
              refine fz_icmp_ne (tgt := 150) (by constructor <;> omega) (by decide) hx hb dX0_build_135 (by decide) (fun c135_ => ?_) (fun c135_ => ?_)
              · refine lv_aload_n hx hb dX0_build_150 rfl (lv_at hl 5 rfl) ?_
                refine lv_aload_n hx hb dX0_build_151 rfl (lv_at hl 4 rfl) ?_
                refine lv_aload_n hx hb dX0_build_152 rfl (lv_at hl 3 rfl) ?_
                refine lv_iload hx hb dX0_build_153 (lv_at hl 0 rfl) ?_
                refine lv_aload_n hx hb dX0_build_155 rfl (lv_at hl 2 rfl) ?_
                refine va_callv (va_runV (As := [.ref (h0 + q), .ref (h0 + q2), .int (iZ (z2)), .ref (h0 + q3)]) (rest := []) ⟨hx, hb, hml, hown, hts⟩ (s_YfuseNext l dC dI cI cZ cII cIII h0 H.size μ3 (q) (rm) (q2) (rm2) (q3) (rm3) (z2) (hq) (hq2) (hq3) (by exact ha3) (by exact ha32) (by exact hGN) (by exact hG2N) (by exact h96) (by rw [vis_eq xb xb2, e4, e5]; exact hv1) (by rw [wOK_eq xb xb2, e4, e5]; exact hww) (by omega) (by omega) (by rw [nE, e4]; exact hoN)) (cwV 4 hts (gV_G k828 k830 ks_yX0_fuseNext k7 k831) rfl rfl rfl (by decide +kernel) ⟨by show 3 + 1 ≤ _; omega, by show 8 + (6 + 11) + (62) ≤ _; omega⟩) ⟨fun a U g mk q => by obtain ⟨q0, q1, qP, qK, qM⟩ := q; exact ⟨q0, q1, qP, va_K.moved (u := U) (U := U.calling g mk a) (Vm.Alike.refl U.vm) qK, qM⟩, va_recv hK hP (ci := 0) (q0 := 41) rfl ((fw_get (by decide)).trans (by rw [sE_41])), fun U hU hW => ⟨rfl, by rw [hU], by rw [hU]; exact hP, va_K.moved hW.alike hK, xM_warm hW hM⟩⟩ rfl rfl hl.1 rfl (lv_room (Nat.le_of_ble_eq_true rfl)) dX0_build_156 ⟨hRc, hRs⟩) hS (fun q _ h => fA_le hS.1 q h) (fA_le hS.1) (fun u9 t9 H1 locs ht9 hvm9 hw9 hB9 hz9 hk9 hS => ?_)
                obtain ⟨hP, -⟩ := hB9
                rw [ht9] at hP
                generalize H1 = H at hP hS ⊢
                obtain ⟨μl, eμl⟩ : ∃ x : va_M, x = u9 := ⟨_, rfl⟩
                rw [← eμl] at hP hw9
                have hμl := hw9; clear hw9
                obtain ⟨f2_, f3_, v3_, o3_, i2_⟩ := hμl
                have g6_ : μl 41 6 = 0 := by unfold gOK at hg1; omega
                have b2_ : bS μl q q2 q3 rm3 := ⟨v3_, Or.inl g6_, by rw [g6_, gI_0, Int.add_zero]; exact o3_⟩
                refine lv_iinc (v := iZ (tu + 1)) (lv' := [(4, .int (iZ (tu + 1))), (5, .int (iZ (z2))), (3, .ref (h0 + q3)), (2, .ref (h0 + q2)), (1, .ref (h0 + q)), (0, .ref (h0 + 41))]) hx hb dX0_build_159 hl (k := 1) rfl (iZ_add _ _) (by decide) rfl (fun ls hl => ?_)
                refine lv_goto (tgt := 22) hx hb dX0_build_162 (by decide) ?_
                exact ih (tu + 1) μl H locs ls (by omega) (by exact fr_trans hf (fr_trans FN f2_)) (by exact b2_) (by omega) hP hS (lv_sub hl [0, 2, 3, 4, 5] rfl)
              · refine lv_aload_n hx hb dX0_build_138 rfl (lv_at hl 5 rfl) ?_
                refine lv_aload_n hx hb dX0_build_139 rfl (lv_at hl 4 rfl) ?_
                refine lv_aload_n hx hb dX0_build_140 rfl (lv_at hl 3 rfl) ?_
                refine lv_iload hx hb dX0_build_141 (lv_at hl 0 rfl) ?_
                refine lv_aload_n hx hb dX0_build_143 rfl (lv_at hl 2 rfl) ?_
                refine va_callv (va_runV (As := [.ref (h0 + q), .ref (h0 + q2), .int (iZ (z2)), .ref (h0 + q3)]) (rest := []) ⟨hx, hb, hml, hown, hts⟩ (s_YleaveOut l dC dI cI cZ cII cIII h0 H.size μ3 (q) (rm) (q2) (rm2) (q3) (rm3) (z2) (hq) (hq2) (hq3) (by exact ha3) (by exact ha32) (by exact hGN) (by exact hG2N) (by exact h96) (by
                                        refine ⟨by rw [vis_eq xb xb2, e4, e5]; exact hv1, Or.inl e6, ?_⟩
                                        rw [e6, gI_0, Int.add_zero, nE, e4]
                                        exact hoN) (by
                                        rw [e4, e5, n5, n25, nE, nE2]
                                        rcases hww with h | h | h | h | h | h
                                        · exact absurd h.1 (by omega)
                                        · exact absurd h.1 (by omega)
                                        · exact absurd h.1 (by omega)
                                        · exact absurd h.1 (by omega)
                                        · exact Or.inl ⟨h.1, h.2.1, h.2.2⟩
                                        · exact Or.inr ⟨h.1, h.2.1, h.2.2⟩)) (cwV 4 hts (gV_G k820 k822 ks_yX0_leaveOut k7 k823) rfl rfl rfl (by decide +kernel) ⟨by show 3 + 1 ≤ _; omega, by show 8 + (8 + 11) + (59) ≤ _; omega⟩) ⟨fun a U g mk q => by obtain ⟨q0, q1, qP, qK, qM⟩ := q; exact ⟨q0, q1, qP, va_K.moved (u := U) (U := U.calling g mk a) (Vm.Alike.refl U.vm) qK, qM⟩, va_recv hK hP (ci := 0) (q0 := 41) rfl ((fw_get (by decide)).trans (by rw [sE_41])), fun U hU hW => ⟨rfl, by rw [hU], by rw [hU]; exact hP, va_K.moved hW.alike hK, xM_warm hW hM⟩⟩ rfl rfl hl.1 rfl (lv_room (Nat.le_of_ble_eq_true rfl)) dX0_build_144 ⟨hRc, hRs⟩) hS (fun q _ h => fA_le hS.1 q h) (fA_le hS.1) (fun u9 t9 H1 locs ht9 hvm9 hw9 hB9 hz9 hk9 hS => ?_)
                obtain ⟨hP, -⟩ := hB9
                rw [ht9] at hP
                generalize H1 = H at hP hS ⊢
                obtain ⟨μl, eμl⟩ : ∃ x : va_M, x = u9 := ⟨_, rfl⟩
                rw [← eμl] at hP hw9
                have hμl := hw9; clear hw9
                obtain ⟨f2_, b2_, i2_⟩ := hμl
                refine lv_goto (tgt := 159) hx hb dX0_build_147 (by decide) ?_
                refine lv_iinc (v := iZ (tu + 1)) (lv' := [(4, .int (iZ (tu + 1))), (5, .int (iZ (z2))), (3, .ref (h0 + q3)), (2, .ref (h0 + q2)), (1, .ref (h0 + q)), (0, .ref (h0 + 41))]) hx hb dX0_build_159 hl (k := 1) rfl (iZ_add _ _) (by decide) rfl (fun ls hl => ?_)
                refine lv_goto (tgt := 22) hx hb dX0_build_162 (by decide) ?_
                exact ih (tu + 1) μl H locs ls (by omega) (by exact fr_trans hf (fr_trans FN f2_)) (by exact b2_) (by omega) hP hS (lv_sub hl [0, 2, 3, 4, 5] rfl)
          · refine lv_iload hx hb dX0_build_93 (lv_at hl 0 rfl) ?_
            refine lv_iconst (v := iZ 4) hx hb dX0_build_95 rfl ?_
            refine fz_icmp_ne (tgt := 126) (by constructor <;> omega) (by decide) hx hb dX0_build_96 (by decide) (fun c96_ => ?_) (fun c96_ => ?_)
            · have FN : fr (BQ q3) μ μ := fr_rfl
              have e4 : μ 41 4 = μ 41 4 := rfl
              have e5 : μ 41 5 = μ 41 5 := rfl
              have xb : ag μ μ q := ag_BQ hq ha3 FN
              have xb2 : ag μ μ q2 := ag_BQ hq2 ha32 FN
              have hGN : rG μ q rm := rG_fr hG1 xb
              have hG2N : rG μ q2 rm2 := rG_fr hG21 xb2
              have n5 := ag_5 xb
              have n25 := ag_5 xb2
              have nE := ag_E xb
              have nE2 := ag_E xb2
              refine lv_iload hx hb dX0_build_126 (lv_at hl 0 rfl) ?_
              refine lv_iconst (v := iZ 4) hx hb dX0_build_128 rfl ?_
              refine fz_icmp_eq (tgt := 138) (by constructor <;> omega) (by decide) hx hb dX0_build_129 (by decide) (fun c129_ => ?_) (fun c129_ => ?_)
              · refine lv_aload_n hx hb dX0_build_138 rfl (lv_at hl 5 rfl) ?_
                refine lv_aload_n hx hb dX0_build_139 rfl (lv_at hl 4 rfl) ?_
                refine lv_aload_n hx hb dX0_build_140 rfl (lv_at hl 3 rfl) ?_
                refine lv_iload hx hb dX0_build_141 (lv_at hl 0 rfl) ?_
                refine lv_aload_n hx hb dX0_build_143 rfl (lv_at hl 2 rfl) ?_
                refine va_callv (va_runV (As := [.ref (h0 + q), .ref (h0 + q2), .int (iZ (z2)), .ref (h0 + q3)]) (rest := []) ⟨hx, hb, hml, hown, hts⟩ (s_YleaveOut l dC dI cI cZ cII cIII h0 H.size μ (q) (rm) (q2) (rm2) (q3) (rm3) (z2) (hq) (hq2) (hq3) (by exact ha3) (by exact ha32) (by exact hGN) (by exact hG2N) (by exact h96) (by exact hbs) (by
                                        rcases hww with h | h | h | h | h | h
                                        · exact absurd h.1 (by omega)
                                        · exact absurd h.1 (by omega)
                                        · exact absurd h.1 (by omega)
                                        · exact absurd h.1 (by omega)
                                        · exact Or.inl ⟨h.1, h.2.1, h.2.2⟩
                                        · exact Or.inr ⟨h.1, h.2.1, h.2.2⟩)) (cwV 4 hts (gV_G k820 k822 ks_yX0_leaveOut k7 k823) rfl rfl rfl (by decide +kernel) ⟨by show 3 + 1 ≤ _; omega, by show 8 + (8 + 11) + (59) ≤ _; omega⟩) ⟨fun a U g mk q => by obtain ⟨q0, q1, qP, qK, qM⟩ := q; exact ⟨q0, q1, qP, va_K.moved (u := U) (U := U.calling g mk a) (Vm.Alike.refl U.vm) qK, qM⟩, va_recv hK hP (ci := 0) (q0 := 41) rfl ((fw_get (by decide)).trans (by rw [sE_41])), fun U hU hW => ⟨rfl, by rw [hU], by rw [hU]; exact hP, va_K.moved hW.alike hK, xM_warm hW hM⟩⟩ rfl rfl hl.1 rfl (lv_room (Nat.le_of_ble_eq_true rfl)) dX0_build_144 ⟨hRc, hRs⟩) hS (fun q _ h => fA_le hS.1 q h) (fA_le hS.1) (fun u9 t9 H1 locs ht9 hvm9 hw9 hB9 hz9 hk9 hS => ?_)
                obtain ⟨hP, -⟩ := hB9
                rw [ht9] at hP
                generalize H1 = H at hP hS ⊢
                obtain ⟨μl, eμl⟩ : ∃ x : va_M, x = u9 := ⟨_, rfl⟩
                rw [← eμl] at hP hw9
                have hμl := hw9; clear hw9
                obtain ⟨f2_, b2_, i2_⟩ := hμl
                refine lv_goto (tgt := 159) hx hb dX0_build_147 (by decide) ?_
                refine lv_iinc (v := iZ (tu + 1)) (lv' := [(4, .int (iZ (tu + 1))), (5, .int (iZ (z2))), (3, .ref (h0 + q3)), (2, .ref (h0 + q2)), (1, .ref (h0 + q)), (0, .ref (h0 + 41))]) hx hb dX0_build_159 hl (k := 1) rfl (iZ_add _ _) (by decide) rfl (fun ls hl => ?_)
                refine lv_goto (tgt := 22) hx hb dX0_build_162 (by decide) ?_
                exact ih (tu + 1) μl H locs ls (by omega) (by exact fr_trans hf (fr_trans FN f2_)) (by exact b2_) (by omega) hP hS (lv_sub hl [0, 2, 3, 4, 5] rfl)
              · refine lv_iload hx hb dX0_build_132 (lv_at hl 0 rfl) ?_
                refine lv_iconst (v := iZ 5) hx hb dX0_build_134 rfl ?_
                refine fz_icmp_ne (tgt := 150) (by constructor <;> omega) (by decide) hx hb dX0_build_135 (by decide) (fun c135_ => ?_) (fun c135_ => ?_)
                · refine lv_aload_n hx hb dX0_build_150 rfl (lv_at hl 5 rfl) ?_
                  refine lv_aload_n hx hb dX0_build_151 rfl (lv_at hl 4 rfl) ?_
                  refine lv_aload_n hx hb dX0_build_152 rfl (lv_at hl 3 rfl) ?_
                  refine lv_iload hx hb dX0_build_153 (lv_at hl 0 rfl) ?_
                  refine lv_aload_n hx hb dX0_build_155 rfl (lv_at hl 2 rfl) ?_
                  refine va_callv (va_runV (As := [.ref (h0 + q), .ref (h0 + q2), .int (iZ (z2)), .ref (h0 + q3)]) (rest := []) ⟨hx, hb, hml, hown, hts⟩ (s_YfuseNext l dC dI cI cZ cII cIII h0 H.size μ (q) (rm) (q2) (rm2) (q3) (rm3) (z2) (hq) (hq2) (hq3) (by exact ha3) (by exact ha32) (by exact hGN) (by exact hG2N) (by exact h96) (by exact hv1) (by exact hww) (by omega) (by omega) (by
                                            have g0 : μ 41 6 = 0 := by unfold gOK at hg1; omega
                                            rw [g0, gI_0, Int.add_zero] at ho1
                                            exact ho1)) (cwV 4 hts (gV_G k828 k830 ks_yX0_fuseNext k7 k831) rfl rfl rfl (by decide +kernel) ⟨by show 3 + 1 ≤ _; omega, by show 8 + (6 + 11) + (62) ≤ _; omega⟩) ⟨fun a U g mk q => by obtain ⟨q0, q1, qP, qK, qM⟩ := q; exact ⟨q0, q1, qP, va_K.moved (u := U) (U := U.calling g mk a) (Vm.Alike.refl U.vm) qK, qM⟩, va_recv hK hP (ci := 0) (q0 := 41) rfl ((fw_get (by decide)).trans (by rw [sE_41])), fun U hU hW => ⟨rfl, by rw [hU], by rw [hU]; exact hP, va_K.moved hW.alike hK, xM_warm hW hM⟩⟩ rfl rfl hl.1 rfl (lv_room (Nat.le_of_ble_eq_true rfl)) dX0_build_156 ⟨hRc, hRs⟩) hS (fun q _ h => fA_le hS.1 q h) (fA_le hS.1) (fun u9 t9 H1 locs ht9 hvm9 hw9 hB9 hz9 hk9 hS => ?_)
                  obtain ⟨hP, -⟩ := hB9
                  rw [ht9] at hP
                  generalize H1 = H at hP hS ⊢
                  obtain ⟨μl, eμl⟩ : ∃ x : va_M, x = u9 := ⟨_, rfl⟩
                  rw [← eμl] at hP hw9
                  have hμl := hw9; clear hw9
                  obtain ⟨f2_, f3_, v3_, o3_, i2_⟩ := hμl
                  have g6_ : μl 41 6 = 0 := by unfold gOK at hg1; omega
                  have b2_ : bS μl q q2 q3 rm3 := ⟨v3_, Or.inl g6_, by rw [g6_, gI_0, Int.add_zero]; exact o3_⟩
                  refine lv_iinc (v := iZ (tu + 1)) (lv' := [(4, .int (iZ (tu + 1))), (5, .int (iZ (z2))), (3, .ref (h0 + q3)), (2, .ref (h0 + q2)), (1, .ref (h0 + q)), (0, .ref (h0 + 41))]) hx hb dX0_build_159 hl (k := 1) rfl (iZ_add _ _) (by decide) rfl (fun ls hl => ?_)
                  refine lv_goto (tgt := 22) hx hb dX0_build_162 (by decide) ?_
                  exact ih (tu + 1) μl H locs ls (by omega) (by exact fr_trans hf (fr_trans FN f2_)) (by exact b2_) (by omega) hP hS (lv_sub hl [0, 2, 3, 4, 5] rfl)
                · refine lv_aload_n hx hb dX0_build_138 rfl (lv_at hl 5 rfl) ?_
                  refine lv_aload_n hx hb dX0_build_139 rfl (lv_at hl 4 rfl) ?_
                  refine lv_aload_n hx hb dX0_build_140 rfl (lv_at hl 3 rfl) ?_
                  refine lv_iload hx hb dX0_build_141 (lv_at hl 0 rfl) ?_
                  refine lv_aload_n hx hb dX0_build_143 rfl (lv_at hl 2 rfl) ?_
                  refine va_callv (va_runV (As := [.ref (h0 + q), .ref (h0 + q2), .int (iZ (z2)), .ref (h0 + q3)]) (rest := []) ⟨hx, hb, hml, hown, hts⟩ (s_YleaveOut l dC dI cI cZ cII cIII h0 H.size μ (q) (rm) (q2) (rm2) (q3) (rm3) (z2) (hq) (hq2) (hq3) (by exact ha3) (by exact ha32) (by exact hGN) (by exact hG2N) (by exact h96) (by exact hbs) (by
                                            rcases hww with h | h | h | h | h | h
                                            · exact absurd h.1 (by omega)
                                            · exact absurd h.1 (by omega)
                                            · exact absurd h.1 (by omega)
                                            · exact absurd h.1 (by omega)
                                            · exact Or.inl ⟨h.1, h.2.1, h.2.2⟩
                                            · exact Or.inr ⟨h.1, h.2.1, h.2.2⟩)) (cwV 4 hts (gV_G k820 k822 ks_yX0_leaveOut k7 k823) rfl rfl rfl (by decide +kernel) ⟨by show 3 + 1 ≤ _; omega, by show 8 + (8 + 11) + (59) ≤ _; omega⟩) ⟨fun a U g mk q => by obtain ⟨q0, q1, qP, qK, qM⟩ := q; exact ⟨q0, q1, qP, va_K.moved (u := U) (U := U.calling g mk a) (Vm.Alike.refl U.vm) qK, qM⟩, va_recv hK hP (ci := 0) (q0 := 41) rfl ((fw_get (by decide)).trans (by rw [sE_41])), fun U hU hW => ⟨rfl, by rw [hU], by rw [hU]; exact hP, va_K.moved hW.alike hK, xM_warm hW hM⟩⟩ rfl rfl hl.1 rfl (lv_room (Nat.le_of_ble_eq_true rfl)) dX0_build_144 ⟨hRc, hRs⟩) hS (fun q _ h => fA_le hS.1 q h) (fA_le hS.1) (fun u9 t9 H1 locs ht9 hvm9 hw9 hB9 hz9 hk9 hS => ?_)
                  obtain ⟨hP, -⟩ := hB9
                  rw [ht9] at hP
                  generalize H1 = H at hP hS ⊢
                  obtain ⟨μl, eμl⟩ : ∃ x : va_M, x = u9 := ⟨_, rfl⟩
                  rw [← eμl] at hP hw9
                  have hμl := hw9; clear hw9
                  obtain ⟨f2_, b2_, i2_⟩ := hμl
                  refine lv_goto (tgt := 159) hx hb dX0_build_147 (by decide) ?_
                  refine lv_iinc (v := iZ (tu + 1)) (lv' := [(4, .int (iZ (tu + 1))), (5, .int (iZ (z2))), (3, .ref (h0 + q3)), (2, .ref (h0 + q2)), (1, .ref (h0 + q)), (0, .ref (h0 + 41))]) hx hb dX0_build_159 hl (k := 1) rfl (iZ_add _ _) (by decide) rfl (fun ls hl => ?_)
                  refine lv_goto (tgt := 22) hx hb dX0_build_162 (by decide) ?_
                  exact ih (tu + 1) μl H locs ls (by omega) (by exact fr_trans hf (fr_trans FN f2_)) (by exact b2_) (by omega) hP hS (lv_sub hl [0, 2, 3, 4, 5] rfl)
            · have hil : μ 41 4 < μ q 5 := by
                rcases hww with h | h | h | h | h | h
                · exact absurd h.1 (by omega)
                · exact absurd h.1 (by omega)
                · exact absurd h.1 (by omega)
                · exact absurd h.1 (by omega)
                · exact h.2.1
                · exact absurd h.1 (by omega)
              refine lv_aload_n hx hb dX0_build_99 rfl (lv_at hl 4 rfl) ?_
              refine fz_get (D := (dC, dI)) (ci := 4) (v := .ref (h0 + (q + 1))) (C := RX4) (T := TX4) (N := 8) hx hb hts inG4 hown hK hP (k := q) (by omega) (F := (sRF h0 q)) (sE_rowO hq) rfl 0 (by decide) (hts _ k80) (fun _ h9 => h9) rfl dX0_build_100 ?_
              refine lv_aload_n hx hb dX0_build_103 rfl (lv_at hl 5 rfl) ?_
              refine fz_get (D := (dC, dI)) (ci := 0) (v := .int (iZ (μ 41 4))) (C := RX0) (T := TX0) (N := 7) hx hb hts inG0 hown hK hP (k := 41) (by decide) (F := (sF41 h0)) sE_41 rfl 4 (by decide) (hts _ k186) (fun _ h9 => h9) rfl dX0_build_104 ?_
              refine fz_ld (k := (q + 1)) (n := rm) hx hb hK hP 0 (by omega) (sE_rowA (r := 1) hq (by decide)) rfl ⟨by omega, by omega⟩ (by omega) dX0_build_107 ?_
              refine lv_sipush (v := iZ 513) hx hb dX0_build_108 rfl ?_
              refine fz_icmp_ne (tgt := 126) (by constructor <;> omega) (by decide) hx hb dX0_build_111 (by decide) (fun c111_ => ?_) (fun c111_ => ?_)
              · have FN : fr (BQ q3) μ μ := fr_rfl
                have e4 : μ 41 4 = μ 41 4 := rfl
                have e5 : μ 41 5 = μ 41 5 := rfl
                have xb : ag μ μ q := ag_BQ hq ha3 FN
                have xb2 : ag μ μ q2 := ag_BQ hq2 ha32 FN
                have hGN : rG μ q rm := rG_fr hG1 xb
                have hG2N : rG μ q2 rm2 := rG_fr hG21 xb2
                have n5 := ag_5 xb
                have n25 := ag_5 xb2
                have nE := ag_E xb
                have nE2 := ag_E xb2
                refine lv_iload hx hb dX0_build_126 (lv_at hl 0 rfl) ?_
                refine lv_iconst (v := iZ 4) hx hb dX0_build_128 rfl ?_
                refine fz_icmp_eq (tgt := 138) (by constructor <;> omega) (by decide) hx hb dX0_build_129 (by decide) (fun c129_ => ?_) (fun c129_ => ?_)
                · refine lv_aload_n hx hb dX0_build_138 rfl (lv_at hl 5 rfl) ?_
                  refine lv_aload_n hx hb dX0_build_139 rfl (lv_at hl 4 rfl) ?_
                  refine lv_aload_n hx hb dX0_build_140 rfl (lv_at hl 3 rfl) ?_
                  refine lv_iload hx hb dX0_build_141 (lv_at hl 0 rfl) ?_
                  refine lv_aload_n hx hb dX0_build_143 rfl (lv_at hl 2 rfl) ?_
                  refine va_callv (va_runV (As := [.ref (h0 + q), .ref (h0 + q2), .int (iZ (z2)), .ref (h0 + q3)]) (rest := []) ⟨hx, hb, hml, hown, hts⟩ (s_YleaveOut l dC dI cI cZ cII cIII h0 H.size μ (q) (rm) (q2) (rm2) (q3) (rm3) (z2) (hq) (hq2) (hq3) (by exact ha3) (by exact ha32) (by exact hGN) (by exact hG2N) (by exact h96) (by exact hbs) (by
                                            rcases hww with h | h | h | h | h | h
                                            · exact absurd h.1 (by omega)
                                            · exact absurd h.1 (by omega)
                                            · exact absurd h.1 (by omega)
                                            · exact absurd h.1 (by omega)
                                            · exact Or.inl ⟨h.1, h.2.1, h.2.2⟩
                                            · exact Or.inr ⟨h.1, h.2.1, h.2.2⟩)) (cwV 4 hts (gV_G k820 k822 ks_yX0_leaveOut k7 k823) rfl rfl rfl (by decide +kernel) ⟨by show 3 + 1 ≤ _; omega, by show 8 + (8 + 11) + (59) ≤ _; omega⟩) ⟨fun a U g mk q => by obtain ⟨q0, q1, qP, qK, qM⟩ := q; exact ⟨q0, q1, qP, va_K.moved (u := U) (U := U.calling g mk a) (Vm.Alike.refl U.vm) qK, qM⟩, va_recv hK hP (ci := 0) (q0 := 41) rfl ((fw_get (by decide)).trans (by rw [sE_41])), fun U hU hW => ⟨rfl, by rw [hU], by rw [hU]; exact hP, va_K.moved hW.alike hK, xM_warm hW hM⟩⟩ rfl rfl hl.1 rfl (lv_room (Nat.le_of_ble_eq_true rfl)) dX0_build_144 ⟨hRc, hRs⟩) hS (fun q _ h => fA_le hS.1 q h) (fA_le hS.1) (fun u9 t9 H1 locs ht9 hvm9 hw9 hB9 hz9 hk9 hS => ?_)
                  obtain ⟨hP, -⟩ := hB9
                  rw [ht9] at hP
                  generalize H1 = H at hP hS ⊢
                  obtain ⟨μl, eμl⟩ : ∃ x : va_M, x = u9 := ⟨_, rfl⟩
                  rw [← eμl] at hP hw9
                  have hμl := hw9; clear hw9
                  obtain ⟨f2_, b2_, i2_⟩ := hμl
                  refine lv_goto (tgt := 159) hx hb dX0_build_147 (by decide) ?_
                  refine lv_iinc (v := iZ (tu + 1)) (lv' := [(4, .int (iZ (tu + 1))), (5, .int (iZ (z2))), (3, .ref (h0 + q3)), (2, .ref (h0 + q2)), (1, .ref (h0 + q)), (0, .ref (h0 + 41))]) hx hb dX0_build_159 hl (k := 1) rfl (iZ_add _ _) (by decide) rfl (fun ls hl => ?_)
                  refine lv_goto (tgt := 22) hx hb dX0_build_162 (by decide) ?_
                  exact ih (tu + 1) μl H locs ls (by omega) (by exact fr_trans hf (fr_trans FN f2_)) (by exact b2_) (by omega) hP hS (lv_sub hl [0, 2, 3, 4, 5] rfl)
                · refine lv_iload hx hb dX0_build_132 (lv_at hl 0 rfl) ?_
                  refine lv_iconst (v := iZ 5) hx hb dX0_build_134 rfl ?_
                  refine fz_icmp_ne (tgt := 150) (by constructor <;> omega) (by decide) hx hb dX0_build_135 (by decide) (fun c135_ => ?_) (fun c135_ => ?_)
                  · refine lv_aload_n hx hb dX0_build_150 rfl (lv_at hl 5 rfl) ?_
                    refine lv_aload_n hx hb dX0_build_151 rfl (lv_at hl 4 rfl) ?_
                    refine lv_aload_n hx hb dX0_build_152 rfl (lv_at hl 3 rfl) ?_
                    refine lv_iload hx hb dX0_build_153 (lv_at hl 0 rfl) ?_
                    refine lv_aload_n hx hb dX0_build_155 rfl (lv_at hl 2 rfl) ?_
                    refine va_callv (va_runV (As := [.ref (h0 + q), .ref (h0 + q2), .int (iZ (z2)), .ref (h0 + q3)]) (rest := []) ⟨hx, hb, hml, hown, hts⟩ (s_YfuseNext l dC dI cI cZ cII cIII h0 H.size μ (q) (rm) (q2) (rm2) (q3) (rm3) (z2) (hq) (hq2) (hq3) (by exact ha3) (by exact ha32) (by exact hGN) (by exact hG2N) (by exact h96) (by exact hv1) (by exact hww) (by omega) (by omega) (by
                                                have g0 : μ 41 6 = 0 := by unfold gOK at hg1; omega
                                                rw [g0, gI_0, Int.add_zero] at ho1
                                                exact ho1)) (cwV 4 hts (gV_G k828 k830 ks_yX0_fuseNext k7 k831) rfl rfl rfl (by decide +kernel) ⟨by show 3 + 1 ≤ _; omega, by show 8 + (6 + 11) + (62) ≤ _; omega⟩) ⟨fun a U g mk q => by obtain ⟨q0, q1, qP, qK, qM⟩ := q; exact ⟨q0, q1, qP, va_K.moved (u := U) (U := U.calling g mk a) (Vm.Alike.refl U.vm) qK, qM⟩, va_recv hK hP (ci := 0) (q0 := 41) rfl ((fw_get (by decide)).trans (by rw [sE_41])), fun U hU hW => ⟨rfl, by rw [hU], by rw [hU]; exact hP, va_K.moved hW.alike hK, xM_warm hW hM⟩⟩ rfl rfl hl.1 rfl (lv_room (Nat.le_of_ble_eq_true rfl)) dX0_build_156 ⟨hRc, hRs⟩) hS (fun q _ h => fA_le hS.1 q h) (fA_le hS.1) (fun u9 t9 H1 locs ht9 hvm9 hw9 hB9 hz9 hk9 hS => ?_)
                    obtain ⟨hP, -⟩ := hB9
                    rw [ht9] at hP
                    generalize H1 = H at hP hS ⊢
                    obtain ⟨μl, eμl⟩ : ∃ x : va_M, x = u9 := ⟨_, rfl⟩
                    rw [← eμl] at hP hw9
                    have hμl := hw9; clear hw9
                    obtain ⟨f2_, f3_, v3_, o3_, i2_⟩ := hμl
                    have g6_ : μl 41 6 = 0 := by unfold gOK at hg1; omega
                    have b2_ : bS μl q q2 q3 rm3 := ⟨v3_, Or.inl g6_, by rw [g6_, gI_0, Int.add_zero]; exact o3_⟩
                    refine lv_iinc (v := iZ (tu + 1)) (lv' := [(4, .int (iZ (tu + 1))), (5, .int (iZ (z2))), (3, .ref (h0 + q3)), (2, .ref (h0 + q2)), (1, .ref (h0 + q)), (0, .ref (h0 + 41))]) hx hb dX0_build_159 hl (k := 1) rfl (iZ_add _ _) (by decide) rfl (fun ls hl => ?_)
                    refine lv_goto (tgt := 22) hx hb dX0_build_162 (by decide) ?_
                    exact ih (tu + 1) μl H locs ls (by omega) (by exact fr_trans hf (fr_trans FN f2_)) (by exact b2_) (by omega) hP hS (lv_sub hl [0, 2, 3, 4, 5] rfl)
                  · refine lv_aload_n hx hb dX0_build_138 rfl (lv_at hl 5 rfl) ?_
                    refine lv_aload_n hx hb dX0_build_139 rfl (lv_at hl 4 rfl) ?_
                    refine lv_aload_n hx hb dX0_build_140 rfl (lv_at hl 3 rfl) ?_
                    refine lv_iload hx hb dX0_build_141 (lv_at hl 0 rfl) ?_
                    refine lv_aload_n hx hb dX0_build_143 rfl (lv_at hl 2 rfl) ?_
                    refine va_callv (va_runV (As := [.ref (h0 + q), .ref (h0 + q2), .int (iZ (z2)), .ref (h0 + q3)]) (rest := []) ⟨hx, hb, hml, hown, hts⟩ (s_YleaveOut l dC dI cI cZ cII cIII h0 H.size μ (q) (rm) (q2) (rm2) (q3) (rm3) (z2) (hq) (hq2) (hq3) (by exact ha3) (by exact ha32) (by exact hGN) (by exact hG2N) (by exact h96) (by exact hbs) (by
                                                rcases hww with h | h | h | h | h | h
                                                · exact absurd h.1 (by omega)
                                                · exact absurd h.1 (by omega)
                                                · exact absurd h.1 (by omega)
                                                · exact absurd h.1 (by omega)
                                                · exact Or.inl ⟨h.1, h.2.1, h.2.2⟩
                                                · exact Or.inr ⟨h.1, h.2.1, h.2.2⟩)) (cwV 4 hts (gV_G k820 k822 ks_yX0_leaveOut k7 k823) rfl rfl rfl (by decide +kernel) ⟨by show 3 + 1 ≤ _; omega, by show 8 + (8 + 11) + (59) ≤ _; omega⟩) ⟨fun a U g mk q => by obtain ⟨q0, q1, qP, qK, qM⟩ := q; exact ⟨q0, q1, qP, va_K.moved (u := U) (U := U.calling g mk a) (Vm.Alike.refl U.vm) qK, qM⟩, va_recv hK hP (ci := 0) (q0 := 41) rfl ((fw_get (by decide)).trans (by rw [sE_41])), fun U hU hW => ⟨rfl, by rw [hU], by rw [hU]; exact hP, va_K.moved hW.alike hK, xM_warm hW hM⟩⟩ rfl rfl hl.1 rfl (lv_room (Nat.le_of_ble_eq_true rfl)) dX0_build_144 ⟨hRc, hRs⟩) hS (fun q _ h => fA_le hS.1 q h) (fA_le hS.1) (fun u9 t9 H1 locs ht9 hvm9 hw9 hB9 hz9 hk9 hS => ?_)
                    obtain ⟨hP, -⟩ := hB9
                    rw [ht9] at hP
                    generalize H1 = H at hP hS ⊢
                    obtain ⟨μl, eμl⟩ : ∃ x : va_M, x = u9 := ⟨_, rfl⟩
                    rw [← eμl] at hP hw9
                    have hμl := hw9; clear hw9
                    obtain ⟨f2_, b2_, i2_⟩ := hμl
                    refine lv_goto (tgt := 159) hx hb dX0_build_147 (by decide) ?_
                    refine lv_iinc (v := iZ (tu + 1)) (lv' := [(4, .int (iZ (tu + 1))), (5, .int (iZ (z2))), (3, .ref (h0 + q3)), (2, .ref (h0 + q2)), (1, .ref (h0 + q)), (0, .ref (h0 + 41))]) hx hb dX0_build_159 hl (k := 1) rfl (iZ_add _ _) (by decide) rfl (fun ls hl => ?_)
                    refine lv_goto (tgt := 22) hx hb dX0_build_162 (by decide) ?_
                    exact ih (tu + 1) μl H locs ls (by omega) (by exact fr_trans hf (fr_trans FN f2_)) (by exact b2_) (by omega) hP hS (lv_sub hl [0, 2, 3, 4, 5] rfl)
              · refine lv_aload_n hx hb dX0_build_114 rfl (lv_at hl 2 rfl) ?_
                refine lv_sipush (v := iZ 515) hx hb dX0_build_115 rfl ?_
                refine va_callv (va_runV (As := [.int (iZ (515))]) (rest := []) ⟨hx, hb, hml, hown, hts⟩ (s_Rput l dC dI cI cZ cII cIII h0 H.size μ (q3) (rm3) (515) (hq3) (by exact ho1.1)) (cwV 1 hts (gV_G k819 k411 k412 k3 k413) rfl rfl rfl (by decide +kernel) ⟨by show 1 + 1 ≤ _; omega, by show 8 + (2 + 11) + (14) ≤ _; omega⟩) ⟨fun a U g mk q => by obtain ⟨q0, q1, qP, qK, qM⟩ := q; exact ⟨q0, q1, qP, va_K.moved (u := U) (U := U.calling g mk a) (Vm.Alike.refl U.vm) qK, qM⟩, va_recv hK hP (ci := 4) (q0 := q3) rfl ((fw_get (by omega)).trans (by rw [(sE_rowO hq3)])), fun U hU hW => ⟨rfl, by rw [hU], by rw [hU]; exact hP, va_K.moved hW.alike hK, xM_warm hW hM⟩⟩ rfl rfl hl.1 rfl (lv_room (Nat.le_of_ble_eq_true rfl)) dX0_build_118 ⟨hRc, hRs⟩) hS (fun q _ h => fA_le hS.1 q h) (fA_le hS.1) (fun u9 t9 H1 locs ht9 hvm9 hw9 hB9 hz9 hk9 hS => ?_)
                obtain ⟨hP, -⟩ := hB9
                rw [ht9] at hP
                generalize H1 = H at hP hS ⊢
                obtain ⟨μo, eμo⟩ : ∃ x : va_M, x = u9 := ⟨_, rfl⟩
                rw [← eμo] at hP hw9
                have hμo := hw9; clear hw9
                obtain ⟨c1, c2⟩ := hμo
                have hDn := ((rG_bal hG1).2 (μ 41 4).toNat (by omega)).1
                rw [gI_n (by omega)] at ho1
                obtain ⟨o1_, f1_⟩ := outS_put ho1 (s := 515) (by unfold vS; omega) (by rw [dl_m]; omega) c1 c2
                rw [dl_m] at o1_
                refine lv_aload_n hx hb dX0_build_121 rfl (lv_at hl 5 rfl) ?_
                refine lv_iconst (v := iZ 0) hx hb dX0_build_122 rfl ?_
                refine fz_put (D := (dC, dI)) (ci := 0) (ty := .int) (z := 0) (C := RX0) (T := TX0) (N := 7) hx hb hts inG0 tyX0 tyX0_ok nmX0 hown hK hP fA_in hS (k := 41) (by decide) (F := (sF41 h0)) sE_41 rfl 6 (by decide) (hts _ k188) (fun _ h9 => h9) rfl (by decide +kernel) rfl rfl (fun _ => Nat.le_of_ble_eq_true rfl) (fun _ _ => rfl) dX0_build_123 (fun H locs hP hS => ?_)
                obtain ⟨μ4, eμ4⟩ : ∃ x : va_M, x = uz μo 41 6 (0) := ⟨_, rfl⟩
                rw [← eμ4] at hP
                have FN : fr (BQ q3) μ μ4 := by rw [eμ4]; exact fr_uz (fr_mono f1_ (fun x y h => Or.inl h)) (Or.inr ⟨rfl, by decide, by decide⟩)
                have e6 : μ4 41 6 = 0 := by rw [eμ4, uz_s]
                have e4 : μ4 41 4 = μ 41 4 := by rw [eμ4, uz_n (by decide)]; exact f1_ _ _ (n41 hq3)
                have e5 : μ4 41 5 = μ 41 5 := by rw [eμ4, uz_n (by decide)]; exact f1_ _ _ (n41 hq3)
                have hoN : outS μ4 q3 rm3 (Dp (μ (q + 1)) (μ 41 4).toNat) := outS_at (of_w hq3 rfl o1_ (by rw [eμ4])) (by omega)
                have xb : ag μ μ4 q := ag_BQ hq ha3 FN
                have xb2 : ag μ μ4 q2 := ag_BQ hq2 ha32 FN
                have hGN : rG μ4 q rm := rG_fr hG1 xb
                have hG2N : rG μ4 q2 rm2 := rG_fr hG21 xb2
                have n5 := ag_5 xb
                have n25 := ag_5 xb2
                have nE := ag_E xb
                have nE2 := ag_E xb2
                refine lv_iload hx hb dX0_build_126 (lv_at hl 0 rfl) ?_
                refine lv_iconst (v := iZ 4) hx hb dX0_build_128 rfl ?_
                refine fz_icmp_eq (tgt := 138) (by constructor <;> omega) (by decide) hx hb dX0_build_129 (by decide) (fun c129_ => ?_) (fun c129_ => ?_)
                · refine lv_aload_n hx hb dX0_build_138 rfl (lv_at hl 5 rfl) ?_
                  refine lv_aload_n hx hb dX0_build_139 rfl (lv_at hl 4 rfl) ?_
                  refine lv_aload_n hx hb dX0_build_140 rfl (lv_at hl 3 rfl) ?_
                  refine lv_iload hx hb dX0_build_141 (lv_at hl 0 rfl) ?_
                  refine lv_aload_n hx hb dX0_build_143 rfl (lv_at hl 2 rfl) ?_
                  refine va_callv (va_runV (As := [.ref (h0 + q), .ref (h0 + q2), .int (iZ (z2)), .ref (h0 + q3)]) (rest := []) ⟨hx, hb, hml, hown, hts⟩ (s_YleaveOut l dC dI cI cZ cII cIII h0 H.size μ4 (q) (rm) (q2) (rm2) (q3) (rm3) (z2) (hq) (hq2) (hq3) (by exact ha3) (by exact ha32) (by exact hGN) (by exact hG2N) (by exact h96) (by
                                            refine ⟨by rw [vis_eq xb xb2, e4, e5]; exact hv1, Or.inl e6, ?_⟩
                                            rw [e6, gI_0, Int.add_zero, nE, e4]
                                            exact hoN) (by
                                            rw [e4, e5, n5, n25, nE, nE2]
                                            rcases hww with h | h | h | h | h | h
                                            · exact absurd h.1 (by omega)
                                            · exact absurd h.1 (by omega)
                                            · exact absurd h.1 (by omega)
                                            · exact absurd h.1 (by omega)
                                            · exact Or.inl ⟨h.1, h.2.1, h.2.2⟩
                                            · exact Or.inr ⟨h.1, h.2.1, h.2.2⟩)) (cwV 4 hts (gV_G k820 k822 ks_yX0_leaveOut k7 k823) rfl rfl rfl (by decide +kernel) ⟨by show 3 + 1 ≤ _; omega, by show 8 + (8 + 11) + (59) ≤ _; omega⟩) ⟨fun a U g mk q => by obtain ⟨q0, q1, qP, qK, qM⟩ := q; exact ⟨q0, q1, qP, va_K.moved (u := U) (U := U.calling g mk a) (Vm.Alike.refl U.vm) qK, qM⟩, va_recv hK hP (ci := 0) (q0 := 41) rfl ((fw_get (by decide)).trans (by rw [sE_41])), fun U hU hW => ⟨rfl, by rw [hU], by rw [hU]; exact hP, va_K.moved hW.alike hK, xM_warm hW hM⟩⟩ rfl rfl hl.1 rfl (lv_room (Nat.le_of_ble_eq_true rfl)) dX0_build_144 ⟨hRc, hRs⟩) hS (fun q _ h => fA_le hS.1 q h) (fA_le hS.1) (fun u9 t9 H1 locs ht9 hvm9 hw9 hB9 hz9 hk9 hS => ?_)
                  obtain ⟨hP, -⟩ := hB9
                  rw [ht9] at hP
                  generalize H1 = H at hP hS ⊢
                  obtain ⟨μl, eμl⟩ : ∃ x : va_M, x = u9 := ⟨_, rfl⟩
                  rw [← eμl] at hP hw9
                  have hμl := hw9; clear hw9
                  obtain ⟨f2_, b2_, i2_⟩ := hμl
                  refine lv_goto (tgt := 159) hx hb dX0_build_147 (by decide) ?_
                  refine lv_iinc (v := iZ (tu + 1)) (lv' := [(4, .int (iZ (tu + 1))), (5, .int (iZ (z2))), (3, .ref (h0 + q3)), (2, .ref (h0 + q2)), (1, .ref (h0 + q)), (0, .ref (h0 + 41))]) hx hb dX0_build_159 hl (k := 1) rfl (iZ_add _ _) (by decide) rfl (fun ls hl => ?_)
                  refine lv_goto (tgt := 22) hx hb dX0_build_162 (by decide) ?_
                  exact ih (tu + 1) μl H locs ls (by omega) (by exact fr_trans hf (fr_trans FN f2_)) (by exact b2_) (by omega) hP hS (lv_sub hl [0, 2, 3, 4, 5] rfl)
                · refine lv_iload hx hb dX0_build_132 (lv_at hl 0 rfl) ?_
                  refine lv_iconst (v := iZ 5) hx hb dX0_build_134 rfl ?_
                  refine fz_icmp_ne (tgt := 150) (by constructor <;> omega) (by decide) hx hb dX0_build_135 (by decide) (fun c135_ => ?_) (fun c135_ => ?_)
                  · refine lv_aload_n hx hb dX0_build_150 rfl (lv_at hl 5 rfl) ?_
                    refine lv_aload_n hx hb dX0_build_151 rfl (lv_at hl 4 rfl) ?_
                    refine lv_aload_n hx hb dX0_build_152 rfl (lv_at hl 3 rfl) ?_
                    refine lv_iload hx hb dX0_build_153 (lv_at hl 0 rfl) ?_
                    refine lv_aload_n hx hb dX0_build_155 rfl (lv_at hl 2 rfl) ?_
                    refine va_callv (va_runV (As := [.ref (h0 + q), .ref (h0 + q2), .int (iZ (z2)), .ref (h0 + q3)]) (rest := []) ⟨hx, hb, hml, hown, hts⟩ (s_YfuseNext l dC dI cI cZ cII cIII h0 H.size μ4 (q) (rm) (q2) (rm2) (q3) (rm3) (z2) (hq) (hq2) (hq3) (by exact ha3) (by exact ha32) (by exact hGN) (by exact hG2N) (by exact h96) (by rw [vis_eq xb xb2, e4, e5]; exact hv1) (by rw [wOK_eq xb xb2, e4, e5]; exact hww) (by omega) (by omega) (by rw [nE, e4]; exact hoN)) (cwV 4 hts (gV_G k828 k830 ks_yX0_fuseNext k7 k831) rfl rfl rfl (by decide +kernel) ⟨by show 3 + 1 ≤ _; omega, by show 8 + (6 + 11) + (62) ≤ _; omega⟩) ⟨fun a U g mk q => by obtain ⟨q0, q1, qP, qK, qM⟩ := q; exact ⟨q0, q1, qP, va_K.moved (u := U) (U := U.calling g mk a) (Vm.Alike.refl U.vm) qK, qM⟩, va_recv hK hP (ci := 0) (q0 := 41) rfl ((fw_get (by decide)).trans (by rw [sE_41])), fun U hU hW => ⟨rfl, by rw [hU], by rw [hU]; exact hP, va_K.moved hW.alike hK, xM_warm hW hM⟩⟩ rfl rfl hl.1 rfl (lv_room (Nat.le_of_ble_eq_true rfl)) dX0_build_156 ⟨hRc, hRs⟩) hS (fun q _ h => fA_le hS.1 q h) (fA_le hS.1) (fun u9 t9 H1 locs ht9 hvm9 hw9 hB9 hz9 hk9 hS => ?_)
                    obtain ⟨hP, -⟩ := hB9
                    rw [ht9] at hP
                    generalize H1 = H at hP hS ⊢
                    obtain ⟨μl, eμl⟩ : ∃ x : va_M, x = u9 := ⟨_, rfl⟩
                    rw [← eμl] at hP hw9
                    have hμl := hw9; clear hw9
                    obtain ⟨f2_, f3_, v3_, o3_, i2_⟩ := hμl
                    have g6_ : μl 41 6 = 0 := by unfold gOK at hg1; omega
                    have b2_ : bS μl q q2 q3 rm3 := ⟨v3_, Or.inl g6_, by rw [g6_, gI_0, Int.add_zero]; exact o3_⟩
                    refine lv_iinc (v := iZ (tu + 1)) (lv' := [(4, .int (iZ (tu + 1))), (5, .int (iZ (z2))), (3, .ref (h0 + q3)), (2, .ref (h0 + q2)), (1, .ref (h0 + q)), (0, .ref (h0 + 41))]) hx hb dX0_build_159 hl (k := 1) rfl (iZ_add _ _) (by decide) rfl (fun ls hl => ?_)
                    refine lv_goto (tgt := 22) hx hb dX0_build_162 (by decide) ?_
                    exact ih (tu + 1) μl H locs ls (by omega) (by exact fr_trans hf (fr_trans FN f2_)) (by exact b2_) (by omega) hP hS (lv_sub hl [0, 2, 3, 4, 5] rfl)
                  · refine lv_aload_n hx hb dX0_build_138 rfl (lv_at hl 5 rfl) ?_
                    refine lv_aload_n hx hb dX0_build_139 rfl (lv_at hl 4 rfl) ?_
                    refine lv_aload_n hx hb dX0_build_140 rfl (lv_at hl 3 rfl) ?_
                    refine lv_iload hx hb dX0_build_141 (lv_at hl 0 rfl) ?_
                    refine lv_aload_n hx hb dX0_build_143 rfl (lv_at hl 2 rfl) ?_
                    refine va_callv (va_runV (As := [.ref (h0 + q), .ref (h0 + q2), .int (iZ (z2)), .ref (h0 + q3)]) (rest := []) ⟨hx, hb, hml, hown, hts⟩ (s_YleaveOut l dC dI cI cZ cII cIII h0 H.size μ4 (q) (rm) (q2) (rm2) (q3) (rm3) (z2) (hq) (hq2) (hq3) (by exact ha3) (by exact ha32) (by exact hGN) (by exact hG2N) (by exact h96) (by
                                                refine ⟨by rw [vis_eq xb xb2, e4, e5]; exact hv1, Or.inl e6, ?_⟩
                                                rw [e6, gI_0, Int.add_zero, nE, e4]
                                                exact hoN) (by
                                                rw [e4, e5, n5, n25, nE, nE2]
                                                rcases hww with h | h | h | h | h | h
                                                · exact absurd h.1 (by omega)
                                                · exact absurd h.1 (by omega)
                                                · exact absurd h.1 (by omega)
                                                · exact absurd h.1 (by omega)
                                                · exact Or.inl ⟨h.1, h.2.1, h.2.2⟩
                                                · exact Or.inr ⟨h.1, h.2.1, h.2.2⟩)) (cwV 4 hts (gV_G k820 k822 ks_yX0_leaveOut k7 k823) rfl rfl rfl (by decide +kernel) ⟨by show 3 + 1 ≤ _; omega, by show 8 + (8 + 11) + (59) ≤ _; omega⟩) ⟨fun a U g mk q => by obtain ⟨q0, q1, qP, qK, qM⟩ := q; exact ⟨q0, q1, qP, va_K.moved (u := U) (U := U.calling g mk a) (Vm.Alike.refl U.vm) qK, qM⟩, va_recv hK hP (ci := 0) (q0 := 41) rfl ((fw_get (by decide)).trans (by rw [sE_41])), fun U hU hW => ⟨rfl, by rw [hU], by rw [hU]; exact hP, va_K.moved hW.alike hK, xM_warm hW hM⟩⟩ rfl rfl hl.1 rfl (lv_room (Nat.le_of_ble_eq_true rfl)) dX0_build_144 ⟨hRc, hRs⟩) hS (fun q _ h => fA_le hS.1 q h) (fA_le hS.1) (fun u9 t9 H1 locs ht9 hvm9 hw9 hB9 hz9 hk9 hS => ?_)
                    obtain ⟨hP, -⟩ := hB9
                    rw [ht9] at hP
                    generalize H1 = H at hP hS ⊢
                    obtain ⟨μl, eμl⟩ : ∃ x : va_M, x = u9 := ⟨_, rfl⟩
                    rw [← eμl] at hP hw9
                    have hμl := hw9; clear hw9
                    obtain ⟨f2_, b2_, i2_⟩ := hμl
                    refine lv_goto (tgt := 159) hx hb dX0_build_147 (by decide) ?_
                    refine lv_iinc (v := iZ (tu + 1)) (lv' := [(4, .int (iZ (tu + 1))), (5, .int (iZ (z2))), (3, .ref (h0 + q3)), (2, .ref (h0 + q2)), (1, .ref (h0 + q)), (0, .ref (h0 + 41))]) hx hb dX0_build_159 hl (k := 1) rfl (iZ_add _ _) (by decide) rfl (fun ls hl => ?_)
                    refine lv_goto (tgt := 22) hx hb dX0_build_162 (by decide) ?_
                    exact ih (tu + 1) μl H locs ls (by omega) (by exact fr_trans hf (fr_trans FN f2_)) (by exact b2_) (by omega) hP hS (lv_sub hl [0, 2, 3, 4, 5] rfl)
      · refine lv_aload_n hx hb dX0_build_40 rfl (lv_at hl 4 rfl) ?_
        refine fz_get (D := (dC, dI)) (ci := 0) (v := .int (iZ (μ 41 5))) (C := RX0) (T := TX0) (N := 7) hx hb hts inG0 hown hK hP (k := 41) (by decide) (F := (sF41 h0)) sE_41 rfl 5 (by decide) (hts _ k187) (fun _ h9 => h9) rfl dX0_build_41 ?_
        refine lv_aload_n hx hb dX0_build_44 rfl (lv_at hl 2 rfl) ?_
        refine fz_get (D := (dC, dI)) (ci := 4) (v := .int (iZ (μ q2 5))) (C := RX4) (T := TX4) (N := 8) hx hb hts inG4 hown hK hP (k := q2) (by omega) (F := (sRF h0 q2)) (sE_rowO hq2) rfl 5 (by decide) (hts _ k94) (fun _ h9 => h9) rfl dX0_build_45 ?_
        refine fz_icmp_ge (tgt := 165) (by constructor <;> omega) (by constructor <;> omega) hx hb dX0_build_48 (by decide) (fun c48_ => ?_) (fun c48_ => ?_)
        · exact hexit165 (tu) μ H locs ls (by exact hf) (by
                            have hz : Dp (μ (q + 1)) (μ 41 4).toNat = 0 := by
                              rw [show (μ 41 4).toNat = (μ q 5).toNat by omega]; exact (rG_bal hG1).1
                            rw [hz, Int.zero_add] at ho1
                            exact ho1) (by exact hg1) hP hS (lv_sub hl [1, 4] rfl)
        · have hst := hLK.1
          have hvz : vis μ0 q q2 (μ 41 4) (μ 41 5) := by rw [← vis_eq xa xa2]; exact hv1
          have hco := hLK.2 _ _ hvz
          have x42 : ∀ y, μ 42 y = μ0 42 y := fun y => BQ_42 hq3 hf
          rw [← xst, ← x42, ← cO_eq xa xa2] at hco
          have hcb := hco.1
          unfold bnd at hcb
          have ml := mulC (i := μ 41 4) (s := μ 41 3) (by omega) (by omega) (by omega) (by omega)
          have hsa := hG1.1 (μ 41 4).toNat
          have hne : μ 41 4 < μ q 5 ∨ μ 41 5 < μ q2 5 := by omega
          refine lv_aload_n hx hb dX0_build_51 rfl (lv_at hl 4 rfl) ?_
          refine fz_get (D := (dC, dI)) (ci := 0) (v := .ref (h0 + 42)) (C := RX0) (T := TX0) (N := 7) hx hb hts inG0 hown hK hP (k := 41) (by decide) (F := (sF41 h0)) sE_41 rfl 0 (by decide) (hts _ k182) (fun _ h9 => h9) rfl dX0_build_52 ?_
          refine lv_aload_n hx hb dX0_build_55 rfl (lv_at hl 4 rfl) ?_
          refine fz_get (D := (dC, dI)) (ci := 0) (v := .int (iZ (μ 41 4))) (C := RX0) (T := TX0) (N := 7) hx hb hts inG0 hown hK hP (k := 41) (by decide) (F := (sF41 h0)) sE_41 rfl 4 (by decide) (hts _ k186) (fun _ h9 => h9) rfl dX0_build_56 ?_
          refine lv_aload_n hx hb dX0_build_59 rfl (lv_at hl 4 rfl) ?_
          refine fz_get (D := (dC, dI)) (ci := 0) (v := .int (iZ (μ 41 3))) (C := RX0) (T := TX0) (N := 7) hx hb hts inG0 hown hK hP (k := 41) (by decide) (F := (sF41 h0)) sE_41 rfl 3 (by decide) (hts _ k185) (fun _ h9 => h9) rfl dX0_build_60 ?_
          refine lv_imul hx hb dX0_build_63 ?_
          refine lv_topi (fun x9 ex9 => ?_)
          obtain rfl : x9 = iZ ((μ 41 4) * (μ 41 3)) := ex9.trans (iZ_mul _ _)
          refine lv_aload_n hx hb dX0_build_64 rfl (lv_at hl 4 rfl) ?_
          refine fz_get (D := (dC, dI)) (ci := 0) (v := .int (iZ (μ 41 5))) (C := RX0) (T := TX0) (N := 7) hx hb hts inG0 hown hK hP (k := 41) (by decide) (F := (sF41 h0)) sE_41 rfl 5 (by decide) (hts _ k187) (fun _ h9 => h9) rfl dX0_build_65 ?_
          refine lv_iadd hx hb dX0_build_68 ?_
          refine lv_topi (fun x9 ex9 => ?_)
          obtain rfl : x9 = iZ (((μ 41 4) * (μ 41 3)) + (μ 41 5)) := ex9.trans (iZ_add _ _)
          refine fz_ld (k := 42) (n := 106797) hx hb hK hP 0 (by decide) sE_42 rfl ⟨by omega, by omega⟩ (by decide) dX0_build_69 ?_
          refine lv_iconst (v := iZ 1) hx hb dX0_build_70 rfl ?_
          refine lv_ishr hx hb dX0_build_71 ?_
          refine lv_topi (fun x9 ex9 => ?_)
          obtain ⟨z5, rfl, hz5⟩ := iZ_ex x9
          have ez5 := ex9; clear ex9
          have hs1 := shr1 hz5 (by constructor <;> omega) ez5
          refine lv_bipush (v := iZ 7) hx hb dX0_build_72 rfl ?_
          refine lv_iand hx hb dX0_build_74 ?_
          refine lv_topi (fun x9 ex9 => ?_)
          obtain ⟨z6, rfl, hz6⟩ := iZ_ex x9
          have ez6 := ex9; clear ex9
          have hs7 := and7 hz6 (by omega) ez6
          have hww := hco.2
          rw [← hs1, ← hs7] at hww
          have hwb : 0 ≤ z6 ∧ z6 ≤ 7 := by omega
          refine lv_istore (lv' := [(5, .int (iZ (z6))), (4, .int (iZ (tu))), (3, .ref (h0 + q3)), (2, .ref (h0 + q2)), (1, .ref (h0 + q)), (0, .ref (h0 + 41))]) hx hb dX0_build_75 hl (by decide) rfl (fun ls hl => ?_)
          refine lv_aload_n hx hb dX0_build_77 rfl (lv_at hl 5 rfl) ?_
          refine fz_get (D := (dC, dI)) (ci := 0) (v := .int (iZ (μ 41 6))) (C := RX0) (T := TX0) (N := 7) hx hb hts inG0 hown hK hP (k := 41) (by decide) (F := (sF41 h0)) sE_41 rfl 6 (by decide) (hts _ k188) (fun _ h9 => h9) rfl dX0_build_78 ?_
          refine fz_if_eq (tgt := 126) (by constructor <;> omega) hx hb dX0_build_81 (by decide) (fun c81_ => ?_) (fun c81_ => ?_)
          · have FN : fr (BQ q3) μ μ := fr_rfl
            have e4 : μ 41 4 = μ 41 4 := rfl
            have e5 : μ 41 5 = μ 41 5 := rfl
            have xb : ag μ μ q := ag_BQ hq ha3 FN
            have xb2 : ag μ μ q2 := ag_BQ hq2 ha32 FN
            have hGN : rG μ q rm := rG_fr hG1 xb
            have hG2N : rG μ q2 rm2 := rG_fr hG21 xb2
            have n5 := ag_5 xb
            have n25 := ag_5 xb2
            have nE := ag_E xb
            have nE2 := ag_E xb2
            refine lv_iload hx hb dX0_build_126 (lv_at hl 0 rfl) ?_
            refine lv_iconst (v := iZ 4) hx hb dX0_build_128 rfl ?_
            refine fz_icmp_eq (tgt := 138) (by constructor <;> omega) (by decide) hx hb dX0_build_129 (by decide) (fun c129_ => ?_) (fun c129_ => ?_)
            · refine lv_aload_n hx hb dX0_build_138 rfl (lv_at hl 5 rfl) ?_
              refine lv_aload_n hx hb dX0_build_139 rfl (lv_at hl 4 rfl) ?_
              refine lv_aload_n hx hb dX0_build_140 rfl (lv_at hl 3 rfl) ?_
              refine lv_iload hx hb dX0_build_141 (lv_at hl 0 rfl) ?_
              refine lv_aload_n hx hb dX0_build_143 rfl (lv_at hl 2 rfl) ?_
              refine va_callv (va_runV (As := [.ref (h0 + q), .ref (h0 + q2), .int (iZ (z6)), .ref (h0 + q3)]) (rest := []) ⟨hx, hb, hml, hown, hts⟩ (s_YleaveOut l dC dI cI cZ cII cIII h0 H.size μ (q) (rm) (q2) (rm2) (q3) (rm3) (z6) (hq) (hq2) (hq3) (by exact ha3) (by exact ha32) (by exact hGN) (by exact hG2N) (by exact h96) (by exact hbs) (by
                                    rcases hww with h | h | h | h | h | h
                                    · exact absurd h.1 (by omega)
                                    · exact absurd h.1 (by omega)
                                    · exact absurd h.1 (by omega)
                                    · exact absurd h.1 (by omega)
                                    · exact Or.inl ⟨h.1, h.2.1, h.2.2⟩
                                    · exact Or.inr ⟨h.1, h.2.1, h.2.2⟩)) (cwV 4 hts (gV_G k820 k822 ks_yX0_leaveOut k7 k823) rfl rfl rfl (by decide +kernel) ⟨by show 3 + 1 ≤ _; omega, by show 8 + (8 + 11) + (59) ≤ _; omega⟩) ⟨fun a U g mk q => by obtain ⟨q0, q1, qP, qK, qM⟩ := q; exact ⟨q0, q1, qP, va_K.moved (u := U) (U := U.calling g mk a) (Vm.Alike.refl U.vm) qK, qM⟩, va_recv hK hP (ci := 0) (q0 := 41) rfl ((fw_get (by decide)).trans (by rw [sE_41])), fun U hU hW => ⟨rfl, by rw [hU], by rw [hU]; exact hP, va_K.moved hW.alike hK, xM_warm hW hM⟩⟩ rfl rfl hl.1 rfl (lv_room (Nat.le_of_ble_eq_true rfl)) dX0_build_144 ⟨hRc, hRs⟩) hS (fun q _ h => fA_le hS.1 q h) (fA_le hS.1) (fun u9 t9 H1 locs ht9 hvm9 hw9 hB9 hz9 hk9 hS => ?_)
              obtain ⟨hP, -⟩ := hB9
              rw [ht9] at hP
              generalize H1 = H at hP hS ⊢
              obtain ⟨μl, eμl⟩ : ∃ x : va_M, x = u9 := ⟨_, rfl⟩
              rw [← eμl] at hP hw9
              have hμl := hw9; clear hw9
              obtain ⟨f2_, b2_, i2_⟩ := hμl
              refine lv_goto (tgt := 159) hx hb dX0_build_147 (by decide) ?_
              refine lv_iinc (v := iZ (tu + 1)) (lv' := [(4, .int (iZ (tu + 1))), (5, .int (iZ (z6))), (3, .ref (h0 + q3)), (2, .ref (h0 + q2)), (1, .ref (h0 + q)), (0, .ref (h0 + 41))]) hx hb dX0_build_159 hl (k := 1) rfl (iZ_add _ _) (by decide) rfl (fun ls hl => ?_)
              refine lv_goto (tgt := 22) hx hb dX0_build_162 (by decide) ?_
              exact ih (tu + 1) μl H locs ls (by omega) (by exact fr_trans hf (fr_trans FN f2_)) (by exact b2_) (by omega) hP hS (lv_sub hl [0, 2, 3, 4, 5] rfl)
            · refine lv_iload hx hb dX0_build_132 (lv_at hl 0 rfl) ?_
              refine lv_iconst (v := iZ 5) hx hb dX0_build_134 rfl ?_
              refine fz_icmp_ne (tgt := 150) (by constructor <;> omega) (by decide) hx hb dX0_build_135 (by decide) (fun c135_ => ?_) (fun c135_ => ?_)
              · refine lv_aload_n hx hb dX0_build_150 rfl (lv_at hl 5 rfl) ?_
                refine lv_aload_n hx hb dX0_build_151 rfl (lv_at hl 4 rfl) ?_
                refine lv_aload_n hx hb dX0_build_152 rfl (lv_at hl 3 rfl) ?_
                refine lv_iload hx hb dX0_build_153 (lv_at hl 0 rfl) ?_
                refine lv_aload_n hx hb dX0_build_155 rfl (lv_at hl 2 rfl) ?_
                refine va_callv (va_runV (As := [.ref (h0 + q), .ref (h0 + q2), .int (iZ (z6)), .ref (h0 + q3)]) (rest := []) ⟨hx, hb, hml, hown, hts⟩ (s_YfuseNext l dC dI cI cZ cII cIII h0 H.size μ (q) (rm) (q2) (rm2) (q3) (rm3) (z6) (hq) (hq2) (hq3) (by exact ha3) (by exact ha32) (by exact hGN) (by exact hG2N) (by exact h96) (by exact hv1) (by exact hww) (by omega) (by omega) (by
                                        have g0 : μ 41 6 = 0 := by unfold gOK at hg1; omega
                                        rw [g0, gI_0, Int.add_zero] at ho1
                                        exact ho1)) (cwV 4 hts (gV_G k828 k830 ks_yX0_fuseNext k7 k831) rfl rfl rfl (by decide +kernel) ⟨by show 3 + 1 ≤ _; omega, by show 8 + (6 + 11) + (62) ≤ _; omega⟩) ⟨fun a U g mk q => by obtain ⟨q0, q1, qP, qK, qM⟩ := q; exact ⟨q0, q1, qP, va_K.moved (u := U) (U := U.calling g mk a) (Vm.Alike.refl U.vm) qK, qM⟩, va_recv hK hP (ci := 0) (q0 := 41) rfl ((fw_get (by decide)).trans (by rw [sE_41])), fun U hU hW => ⟨rfl, by rw [hU], by rw [hU]; exact hP, va_K.moved hW.alike hK, xM_warm hW hM⟩⟩ rfl rfl hl.1 rfl (lv_room (Nat.le_of_ble_eq_true rfl)) dX0_build_156 ⟨hRc, hRs⟩) hS (fun q _ h => fA_le hS.1 q h) (fA_le hS.1) (fun u9 t9 H1 locs ht9 hvm9 hw9 hB9 hz9 hk9 hS => ?_)
                obtain ⟨hP, -⟩ := hB9
                rw [ht9] at hP
                generalize H1 = H at hP hS ⊢
                obtain ⟨μl, eμl⟩ : ∃ x : va_M, x = u9 := ⟨_, rfl⟩
                rw [← eμl] at hP hw9
                have hμl := hw9; clear hw9
                obtain ⟨f2_, f3_, v3_, o3_, i2_⟩ := hμl
                have g6_ : μl 41 6 = 0 := by unfold gOK at hg1; omega
                have b2_ : bS μl q q2 q3 rm3 := ⟨v3_, Or.inl g6_, by rw [g6_, gI_0, Int.add_zero]; exact o3_⟩
                refine lv_iinc (v := iZ (tu + 1)) (lv' := [(4, .int (iZ (tu + 1))), (5, .int (iZ (z6))), (3, .ref (h0 + q3)), (2, .ref (h0 + q2)), (1, .ref (h0 + q)), (0, .ref (h0 + 41))]) hx hb dX0_build_159 hl (k := 1) rfl (iZ_add _ _) (by decide) rfl (fun ls hl => ?_)
                refine lv_goto (tgt := 22) hx hb dX0_build_162 (by decide) ?_
                exact ih (tu + 1) μl H locs ls (by omega) (by exact fr_trans hf (fr_trans FN f2_)) (by exact b2_) (by omega) hP hS (lv_sub hl [0, 2, 3, 4, 5] rfl)
              · refine lv_aload_n hx hb dX0_build_138 rfl (lv_at hl 5 rfl) ?_
                refine lv_aload_n hx hb dX0_build_139 rfl (lv_at hl 4 rfl) ?_
                refine lv_aload_n hx hb dX0_build_140 rfl (lv_at hl 3 rfl) ?_
                refine lv_iload hx hb dX0_build_141 (lv_at hl 0 rfl) ?_
                refine lv_aload_n hx hb dX0_build_143 rfl (lv_at hl 2 rfl) ?_
                refine va_callv (va_runV (As := [.ref (h0 + q), .ref (h0 + q2), .int (iZ (z6)), .ref (h0 + q3)]) (rest := []) ⟨hx, hb, hml, hown, hts⟩ (s_YleaveOut l dC dI cI cZ cII cIII h0 H.size μ (q) (rm) (q2) (rm2) (q3) (rm3) (z6) (hq) (hq2) (hq3) (by exact ha3) (by exact ha32) (by exact hGN) (by exact hG2N) (by exact h96) (by exact hbs) (by
                                        rcases hww with h | h | h | h | h | h
                                        · exact absurd h.1 (by omega)
                                        · exact absurd h.1 (by omega)
                                        · exact absurd h.1 (by omega)
                                        · exact absurd h.1 (by omega)
                                        · exact Or.inl ⟨h.1, h.2.1, h.2.2⟩
                                        · exact Or.inr ⟨h.1, h.2.1, h.2.2⟩)) (cwV 4 hts (gV_G k820 k822 ks_yX0_leaveOut k7 k823) rfl rfl rfl (by decide +kernel) ⟨by show 3 + 1 ≤ _; omega, by show 8 + (8 + 11) + (59) ≤ _; omega⟩) ⟨fun a U g mk q => by obtain ⟨q0, q1, qP, qK, qM⟩ := q; exact ⟨q0, q1, qP, va_K.moved (u := U) (U := U.calling g mk a) (Vm.Alike.refl U.vm) qK, qM⟩, va_recv hK hP (ci := 0) (q0 := 41) rfl ((fw_get (by decide)).trans (by rw [sE_41])), fun U hU hW => ⟨rfl, by rw [hU], by rw [hU]; exact hP, va_K.moved hW.alike hK, xM_warm hW hM⟩⟩ rfl rfl hl.1 rfl (lv_room (Nat.le_of_ble_eq_true rfl)) dX0_build_144 ⟨hRc, hRs⟩) hS (fun q _ h => fA_le hS.1 q h) (fA_le hS.1) (fun u9 t9 H1 locs ht9 hvm9 hw9 hB9 hz9 hk9 hS => ?_)
                obtain ⟨hP, -⟩ := hB9
                rw [ht9] at hP
                generalize H1 = H at hP hS ⊢
                obtain ⟨μl, eμl⟩ : ∃ x : va_M, x = u9 := ⟨_, rfl⟩
                rw [← eμl] at hP hw9
                have hμl := hw9; clear hw9
                obtain ⟨f2_, b2_, i2_⟩ := hμl
                refine lv_goto (tgt := 159) hx hb dX0_build_147 (by decide) ?_
                refine lv_iinc (v := iZ (tu + 1)) (lv' := [(4, .int (iZ (tu + 1))), (5, .int (iZ (z6))), (3, .ref (h0 + q3)), (2, .ref (h0 + q2)), (1, .ref (h0 + q)), (0, .ref (h0 + 41))]) hx hb dX0_build_159 hl (k := 1) rfl (iZ_add _ _) (by decide) rfl (fun ls hl => ?_)
                refine lv_goto (tgt := 22) hx hb dX0_build_162 (by decide) ?_
                exact ih (tu + 1) μl H locs ls (by omega) (by exact fr_trans hf (fr_trans FN f2_)) (by exact b2_) (by omega) hP hS (lv_sub hl [0, 2, 3, 4, 5] rfl)
          · refine lv_iload hx hb dX0_build_84 (lv_at hl 0 rfl) ?_
            refine lv_aload_n hx hb dX0_build_86 rfl (lv_at hl 5 rfl) ?_
            refine fz_get (D := (dC, dI)) (ci := 0) (v := .int (iZ (μ 41 6))) (C := RX0) (T := TX0) (N := 7) hx hb hts inG0 hown hK hP (k := 41) (by decide) (F := (sF41 h0)) sE_41 rfl 6 (by decide) (hts _ k188) (fun _ h9 => h9) rfl dX0_build_87 ?_
            refine fz_icmp_ne (tgt := 114) (by constructor <;> omega) (by constructor <;> omega) hx hb dX0_build_90 (by decide) (fun c90_ => ?_) (fun c90_ => ?_)
            · refine lv_aload_n hx hb dX0_build_114 rfl (lv_at hl 2 rfl) ?_
              refine lv_sipush (v := iZ 515) hx hb dX0_build_115 rfl ?_
              refine va_callv (va_runV (As := [.int (iZ (515))]) (rest := []) ⟨hx, hb, hml, hown, hts⟩ (s_Rput l dC dI cI cZ cII cIII h0 H.size μ (q3) (rm3) (515) (hq3) (by exact ho1.1)) (cwV 1 hts (gV_G k819 k411 k412 k3 k413) rfl rfl rfl (by decide +kernel) ⟨by show 1 + 1 ≤ _; omega, by show 8 + (2 + 11) + (14) ≤ _; omega⟩) ⟨fun a U g mk q => by obtain ⟨q0, q1, qP, qK, qM⟩ := q; exact ⟨q0, q1, qP, va_K.moved (u := U) (U := U.calling g mk a) (Vm.Alike.refl U.vm) qK, qM⟩, va_recv hK hP (ci := 4) (q0 := q3) rfl ((fw_get (by omega)).trans (by rw [(sE_rowO hq3)])), fun U hU hW => ⟨rfl, by rw [hU], by rw [hU]; exact hP, va_K.moved hW.alike hK, xM_warm hW hM⟩⟩ rfl rfl hl.1 rfl (lv_room (Nat.le_of_ble_eq_true rfl)) dX0_build_118 ⟨hRc, hRs⟩) hS (fun q _ h => fA_le hS.1 q h) (fA_le hS.1) (fun u9 t9 H1 locs ht9 hvm9 hw9 hB9 hz9 hk9 hS => ?_)
              obtain ⟨hP, -⟩ := hB9
              rw [ht9] at hP
              generalize H1 = H at hP hS ⊢
              obtain ⟨μo, eμo⟩ : ∃ x : va_M, x = u9 := ⟨_, rfl⟩
              rw [← eμo] at hP hw9
              have hμo := hw9; clear hw9
              obtain ⟨c1, c2⟩ := hμo
              have hDn := ((rG_bal hG1).2 (μ 41 4).toNat (by omega)).1
              rw [gI_n (by omega)] at ho1
              obtain ⟨o1_, f1_⟩ := outS_put ho1 (s := 515) (by unfold vS; omega) (by rw [dl_m]; omega) c1 c2
              rw [dl_m] at o1_
              refine lv_aload_n hx hb dX0_build_121 rfl (lv_at hl 5 rfl) ?_
              refine lv_iconst (v := iZ 0) hx hb dX0_build_122 rfl ?_
              refine fz_put (D := (dC, dI)) (ci := 0) (ty := .int) (z := 0) (C := RX0) (T := TX0) (N := 7) hx hb hts inG0 tyX0 tyX0_ok nmX0 hown hK hP fA_in hS (k := 41) (by decide) (F := (sF41 h0)) sE_41 rfl 6 (by decide) (hts _ k188) (fun _ h9 => h9) rfl (by decide +kernel) rfl rfl (fun _ => Nat.le_of_ble_eq_true rfl) (fun _ _ => rfl) dX0_build_123 (fun H locs hP hS => ?_)
              obtain ⟨μ7, eμ7⟩ : ∃ x : va_M, x = uz μo 41 6 (0) := ⟨_, rfl⟩
              rw [← eμ7] at hP
              have FN : fr (BQ q3) μ μ7 := by rw [eμ7]; exact fr_uz (fr_mono f1_ (fun x y h => Or.inl h)) (Or.inr ⟨rfl, by decide, by decide⟩)
              have e6 : μ7 41 6 = 0 := by rw [eμ7, uz_s]
              have e4 : μ7 41 4 = μ 41 4 := by rw [eμ7, uz_n (by decide)]; exact f1_ _ _ (n41 hq3)
              have e5 : μ7 41 5 = μ 41 5 := by rw [eμ7, uz_n (by decide)]; exact f1_ _ _ (n41 hq3)
              have hoN : outS μ7 q3 rm3 (Dp (μ (q + 1)) (μ 41 4).toNat) := outS_at (of_w hq3 rfl o1_ (by rw [eμ7])) (by omega)
              have xb : ag μ μ7 q := ag_BQ hq ha3 FN
              have xb2 : ag μ μ7 q2 := ag_BQ hq2 ha32 FN
              have hGN : rG μ7 q rm := rG_fr hG1 xb
              have hG2N : rG μ7 q2 rm2 := rG_fr hG21 xb2
              have n5 := ag_5 xb
              have n25 := ag_5 xb2
              have nE := ag_E xb
              have nE2 := ag_E xb2
              refine lv_iload hx hb dX0_build_126 (lv_at hl 0 rfl) ?_
              refine lv_iconst (v := iZ 4) hx hb dX0_build_128 rfl ?_
              refine fz_icmp_eq (tgt := 138) (by constructor <;> omega) (by decide) hx hb dX0_build_129 (by decide) (fun c129_ => ?_) (fun c129_ => ?_)
              · refine lv_aload_n hx hb dX0_build_138 rfl (lv_at hl 5 rfl) ?_
                refine lv_aload_n hx hb dX0_build_139 rfl (lv_at hl 4 rfl) ?_
                refine lv_aload_n hx hb dX0_build_140 rfl (lv_at hl 3 rfl) ?_
                refine lv_iload hx hb dX0_build_141 (lv_at hl 0 rfl) ?_
                refine lv_aload_n hx hb dX0_build_143 rfl (lv_at hl 2 rfl) ?_
                refine va_callv (va_runV (As := [.ref (h0 + q), .ref (h0 + q2), .int (iZ (z6)), .ref (h0 + q3)]) (rest := []) ⟨hx, hb, hml, hown, hts⟩ (s_YleaveOut l dC dI cI cZ cII cIII h0 H.size μ7 (q) (rm) (q2) (rm2) (q3) (rm3) (z6) (hq) (hq2) (hq3) (by exact ha3) (by exact ha32) (by exact hGN) (by exact hG2N) (by exact h96) (by
                                        refine ⟨by rw [vis_eq xb xb2, e4, e5]; exact hv1, Or.inl e6, ?_⟩
                                        rw [e6, gI_0, Int.add_zero, nE, e4]
                                        exact hoN) (by
                                        rw [e4, e5, n5, n25, nE, nE2]
                                        rcases hww with h | h | h | h | h | h
                                        · exact absurd h.1 (by omega)
                                        · exact absurd h.1 (by omega)
                                        · exact absurd h.1 (by omega)
                                        · exact absurd h.1 (by omega)
                                        · exact Or.inl ⟨h.1, h.2.1, h.2.2⟩
                                        · exact Or.inr ⟨h.1, h.2.1, h.2.2⟩)) (cwV 4 hts (gV_G k820 k822 ks_yX0_leaveOut k7 k823) rfl rfl rfl (by decide +kernel) ⟨by show 3 + 1 ≤ _; omega, by show 8 + (8 + 11) + (59) ≤ _; omega⟩) ⟨fun a U g mk q => by obtain ⟨q0, q1, qP, qK, qM⟩ := q; exact ⟨q0, q1, qP, va_K.moved (u := U) (U := U.calling g mk a) (Vm.Alike.refl U.vm) qK, qM⟩, va_recv hK hP (ci := 0) (q0 := 41) rfl ((fw_get (by decide)).trans (by rw [sE_41])), fun U hU hW => ⟨rfl, by rw [hU], by rw [hU]; exact hP, va_K.moved hW.alike hK, xM_warm hW hM⟩⟩ rfl rfl hl.1 rfl (lv_room (Nat.le_of_ble_eq_true rfl)) dX0_build_144 ⟨hRc, hRs⟩) hS (fun q _ h => fA_le hS.1 q h) (fA_le hS.1) (fun u9 t9 H1 locs ht9 hvm9 hw9 hB9 hz9 hk9 hS => ?_)
                obtain ⟨hP, -⟩ := hB9
                rw [ht9] at hP
                generalize H1 = H at hP hS ⊢
                obtain ⟨μl, eμl⟩ : ∃ x : va_M, x = u9 := ⟨_, rfl⟩
                rw [← eμl] at hP hw9
                have hμl := hw9; clear hw9
                obtain ⟨f2_, b2_, i2_⟩ := hμl
                refine lv_goto (tgt := 159) hx hb dX0_build_147 (by decide) ?_
                refine lv_iinc (v := iZ (tu + 1)) (lv' := [(4, .int (iZ (tu + 1))), (5, .int (iZ (z6))), (3, .ref (h0 + q3)), (2, .ref (h0 + q2)), (1, .ref (h0 + q)), (0, .ref (h0 + 41))]) hx hb dX0_build_159 hl (k := 1) rfl (iZ_add _ _) (by decide) rfl (fun ls hl => ?_)
                refine lv_goto (tgt := 22) hx hb dX0_build_162 (by decide) ?_
                exact ih (tu + 1) μl H locs ls (by omega) (by exact fr_trans hf (fr_trans FN f2_)) (by exact b2_) (by omega) hP hS (lv_sub hl [0, 2, 3, 4, 5] rfl)
              · refine lv_iload hx hb dX0_build_132 (lv_at hl 0 rfl) ?_
                refine lv_iconst (v := iZ 5) hx hb dX0_build_134 rfl ?_
                refine fz_icmp_ne (tgt := 150) (by constructor <;> omega) (by decide) hx hb dX0_build_135 (by decide) (fun c135_ => ?_) (fun c135_ => ?_)
                · refine lv_aload_n hx hb dX0_build_150 rfl (lv_at hl 5 rfl) ?_
                  refine lv_aload_n hx hb dX0_build_151 rfl (lv_at hl 4 rfl) ?_
                  refine lv_aload_n hx hb dX0_build_152 rfl (lv_at hl 3 rfl) ?_
                  refine lv_iload hx hb dX0_build_153 (lv_at hl 0 rfl) ?_
                  refine lv_aload_n hx hb dX0_build_155 rfl (lv_at hl 2 rfl) ?_
                  refine va_callv (va_runV (As := [.ref (h0 + q), .ref (h0 + q2), .int (iZ (z6)), .ref (h0 + q3)]) (rest := []) ⟨hx, hb, hml, hown, hts⟩ (s_YfuseNext l dC dI cI cZ cII cIII h0 H.size μ7 (q) (rm) (q2) (rm2) (q3) (rm3) (z6) (hq) (hq2) (hq3) (by exact ha3) (by exact ha32) (by exact hGN) (by exact hG2N) (by exact h96) (by rw [vis_eq xb xb2, e4, e5]; exact hv1) (by rw [wOK_eq xb xb2, e4, e5]; exact hww) (by omega) (by omega) (by rw [nE, e4]; exact hoN)) (cwV 4 hts (gV_G k828 k830 ks_yX0_fuseNext k7 k831) rfl rfl rfl (by decide +kernel) ⟨by show 3 + 1 ≤ _; omega, by show 8 + (6 + 11) + (62) ≤ _; omega⟩) ⟨fun a U g mk q => by obtain ⟨q0, q1, qP, qK, qM⟩ := q; exact ⟨q0, q1, qP, va_K.moved (u := U) (U := U.calling g mk a) (Vm.Alike.refl U.vm) qK, qM⟩, va_recv hK hP (ci := 0) (q0 := 41) rfl ((fw_get (by decide)).trans (by rw [sE_41])), fun U hU hW => ⟨rfl, by rw [hU], by rw [hU]; exact hP, va_K.moved hW.alike hK, xM_warm hW hM⟩⟩ rfl rfl hl.1 rfl (lv_room (Nat.le_of_ble_eq_true rfl)) dX0_build_156 ⟨hRc, hRs⟩) hS (fun q _ h => fA_le hS.1 q h) (fA_le hS.1) (fun u9 t9 H1 locs ht9 hvm9 hw9 hB9 hz9 hk9 hS => ?_)
                  obtain ⟨hP, -⟩ := hB9
                  rw [ht9] at hP
                  generalize H1 = H at hP hS ⊢
                  obtain ⟨μl, eμl⟩ : ∃ x : va_M, x = u9 := ⟨_, rfl⟩
                  rw [← eμl] at hP hw9
                  have hμl := hw9; clear hw9
                  obtain ⟨f2_, f3_, v3_, o3_, i2_⟩ := hμl
                  have g6_ : μl 41 6 = 0 := by unfold gOK at hg1; omega
                  have b2_ : bS μl q q2 q3 rm3 := ⟨v3_, Or.inl g6_, by rw [g6_, gI_0, Int.add_zero]; exact o3_⟩
                  refine lv_iinc (v := iZ (tu + 1)) (lv' := [(4, .int (iZ (tu + 1))), (5, .int (iZ (z6))), (3, .ref (h0 + q3)), (2, .ref (h0 + q2)), (1, .ref (h0 + q)), (0, .ref (h0 + 41))]) hx hb dX0_build_159 hl (k := 1) rfl (iZ_add _ _) (by decide) rfl (fun ls hl => ?_)
                  refine lv_goto (tgt := 22) hx hb dX0_build_162 (by decide) ?_
                  exact ih (tu + 1) μl H locs ls (by omega) (by exact fr_trans hf (fr_trans FN f2_)) (by exact b2_) (by omega) hP hS (lv_sub hl [0, 2, 3, 4, 5] rfl)
                · refine lv_aload_n hx hb dX0_build_138 rfl (lv_at hl 5 rfl) ?_
                  refine lv_aload_n hx hb dX0_build_139 rfl (lv_at hl 4 rfl) ?_
                  refine lv_aload_n hx hb dX0_build_140 rfl (lv_at hl 3 rfl) ?_
                  refine lv_iload hx hb dX0_build_141 (lv_at hl 0 rfl) ?_
                  refine lv_aload_n hx hb dX0_build_143 rfl (lv_at hl 2 rfl) ?_
                  refine va_callv (va_runV (As := [.ref (h0 + q), .ref (h0 + q2), .int (iZ (z6)), .ref (h0 + q3)]) (rest := []) ⟨hx, hb, hml, hown, hts⟩ (s_YleaveOut l dC dI cI cZ cII cIII h0 H.size μ7 (q) (rm) (q2) (rm2) (q3) (rm3) (z6) (hq) (hq2) (hq3) (by exact ha3) (by exact ha32) (by exact hGN) (by exact hG2N) (by exact h96) (by
                                            refine ⟨by rw [vis_eq xb xb2, e4, e5]; exact hv1, Or.inl e6, ?_⟩
                                            rw [e6, gI_0, Int.add_zero, nE, e4]
                                            exact hoN) (by
                                            rw [e4, e5, n5, n25, nE, nE2]
                                            rcases hww with h | h | h | h | h | h
                                            · exact absurd h.1 (by omega)
                                            · exact absurd h.1 (by omega)
                                            · exact absurd h.1 (by omega)
                                            · exact absurd h.1 (by omega)
                                            · exact Or.inl ⟨h.1, h.2.1, h.2.2⟩
                                            · exact Or.inr ⟨h.1, h.2.1, h.2.2⟩)) (cwV 4 hts (gV_G k820 k822 ks_yX0_leaveOut k7 k823) rfl rfl rfl (by decide +kernel) ⟨by show 3 + 1 ≤ _; omega, by show 8 + (8 + 11) + (59) ≤ _; omega⟩) ⟨fun a U g mk q => by obtain ⟨q0, q1, qP, qK, qM⟩ := q; exact ⟨q0, q1, qP, va_K.moved (u := U) (U := U.calling g mk a) (Vm.Alike.refl U.vm) qK, qM⟩, va_recv hK hP (ci := 0) (q0 := 41) rfl ((fw_get (by decide)).trans (by rw [sE_41])), fun U hU hW => ⟨rfl, by rw [hU], by rw [hU]; exact hP, va_K.moved hW.alike hK, xM_warm hW hM⟩⟩ rfl rfl hl.1 rfl (lv_room (Nat.le_of_ble_eq_true rfl)) dX0_build_144 ⟨hRc, hRs⟩) hS (fun q _ h => fA_le hS.1 q h) (fA_le hS.1) (fun u9 t9 H1 locs ht9 hvm9 hw9 hB9 hz9 hk9 hS => ?_)
                  obtain ⟨hP, -⟩ := hB9
                  rw [ht9] at hP
                  generalize H1 = H at hP hS ⊢
                  obtain ⟨μl, eμl⟩ : ∃ x : va_M, x = u9 := ⟨_, rfl⟩
                  rw [← eμl] at hP hw9
                  have hμl := hw9; clear hw9
                  obtain ⟨f2_, b2_, i2_⟩ := hμl
                  refine lv_goto (tgt := 159) hx hb dX0_build_147 (by decide) ?_
                  refine lv_iinc (v := iZ (tu + 1)) (lv' := [(4, .int (iZ (tu + 1))), (5, .int (iZ (z6))), (3, .ref (h0 + q3)), (2, .ref (h0 + q2)), (1, .ref (h0 + q)), (0, .ref (h0 + 41))]) hx hb dX0_build_159 hl (k := 1) rfl (iZ_add _ _) (by decide) rfl (fun ls hl => ?_)
                  refine lv_goto (tgt := 22) hx hb dX0_build_162 (by decide) ?_
                  exact ih (tu + 1) μl H locs ls (by omega) (by exact fr_trans hf (fr_trans FN f2_)) (by exact b2_) (by omega) hP hS (lv_sub hl [0, 2, 3, 4, 5] rfl)
            · refine lv_iload hx hb dX0_build_93 (lv_at hl 0 rfl) ?_
              refine lv_iconst (v := iZ 4) hx hb dX0_build_95 rfl ?_
              refine fz_icmp_ne (tgt := 126) (by constructor <;> omega) (by decide) hx hb dX0_build_96 (by decide) (fun c96_ => ?_) (fun c96_ => ?_)
              · have FN : fr (BQ q3) μ μ := fr_rfl
                have e4 : μ 41 4 = μ 41 4 := rfl
                have e5 : μ 41 5 = μ 41 5 := rfl
                have xb : ag μ μ q := ag_BQ hq ha3 FN
                have xb2 : ag μ μ q2 := ag_BQ hq2 ha32 FN
                have hGN : rG μ q rm := rG_fr hG1 xb
                have hG2N : rG μ q2 rm2 := rG_fr hG21 xb2
                have n5 := ag_5 xb
                have n25 := ag_5 xb2
                have nE := ag_E xb
                have nE2 := ag_E xb2
                refine lv_iload hx hb dX0_build_126 (lv_at hl 0 rfl) ?_
                refine lv_iconst (v := iZ 4) hx hb dX0_build_128 rfl ?_
                refine fz_icmp_eq (tgt := 138) (by constructor <;> omega) (by decide) hx hb dX0_build_129 (by decide) (fun c129_ => ?_) (fun c129_ => ?_)
                · refine lv_aload_n hx hb dX0_build_138 rfl (lv_at hl 5 rfl) ?_
                  refine lv_aload_n hx hb dX0_build_139 rfl (lv_at hl 4 rfl) ?_
                  refine lv_aload_n hx hb dX0_build_140 rfl (lv_at hl 3 rfl) ?_
                  refine lv_iload hx hb dX0_build_141 (lv_at hl 0 rfl) ?_
                  refine lv_aload_n hx hb dX0_build_143 rfl (lv_at hl 2 rfl) ?_
                  refine va_callv (va_runV (As := [.ref (h0 + q), .ref (h0 + q2), .int (iZ (z6)), .ref (h0 + q3)]) (rest := []) ⟨hx, hb, hml, hown, hts⟩ (s_YleaveOut l dC dI cI cZ cII cIII h0 H.size μ (q) (rm) (q2) (rm2) (q3) (rm3) (z6) (hq) (hq2) (hq3) (by exact ha3) (by exact ha32) (by exact hGN) (by exact hG2N) (by exact h96) (by exact hbs) (by
                                            rcases hww with h | h | h | h | h | h
                                            · exact absurd h.1 (by omega)
                                            · exact absurd h.1 (by omega)
                                            · exact absurd h.1 (by omega)
                                            · exact absurd h.1 (by omega)
                                            · exact Or.inl ⟨h.1, h.2.1, h.2.2⟩
                                            · exact Or.inr ⟨h.1, h.2.1, h.2.2⟩)) (cwV 4 hts (gV_G k820 k822 ks_yX0_leaveOut k7 k823) rfl rfl rfl (by decide +kernel) ⟨by show 3 + 1 ≤ _; omega, by show 8 + (8 + 11) + (59) ≤ _; omega⟩) ⟨fun a U g mk q => by obtain ⟨q0, q1, qP, qK, qM⟩ := q; exact ⟨q0, q1, qP, va_K.moved (u := U) (U := U.calling g mk a) (Vm.Alike.refl U.vm) qK, qM⟩, va_recv hK hP (ci := 0) (q0 := 41) rfl ((fw_get (by decide)).trans (by rw [sE_41])), fun U hU hW => ⟨rfl, by rw [hU], by rw [hU]; exact hP, va_K.moved hW.alike hK, xM_warm hW hM⟩⟩ rfl rfl hl.1 rfl (lv_room (Nat.le_of_ble_eq_true rfl)) dX0_build_144 ⟨hRc, hRs⟩) hS (fun q _ h => fA_le hS.1 q h) (fA_le hS.1) (fun u9 t9 H1 locs ht9 hvm9 hw9 hB9 hz9 hk9 hS => ?_)
                  obtain ⟨hP, -⟩ := hB9
                  rw [ht9] at hP
                  generalize H1 = H at hP hS ⊢
                  obtain ⟨μl, eμl⟩ : ∃ x : va_M, x = u9 := ⟨_, rfl⟩
                  rw [← eμl] at hP hw9
                  have hμl := hw9; clear hw9
                  obtain ⟨f2_, b2_, i2_⟩ := hμl
                  refine lv_goto (tgt := 159) hx hb dX0_build_147 (by decide) ?_
                  refine lv_iinc (v := iZ (tu + 1)) (lv' := [(4, .int (iZ (tu + 1))), (5, .int (iZ (z6))), (3, .ref (h0 + q3)), (2, .ref (h0 + q2)), (1, .ref (h0 + q)), (0, .ref (h0 + 41))]) hx hb dX0_build_159 hl (k := 1) rfl (iZ_add _ _) (by decide) rfl (fun ls hl => ?_)
                  refine lv_goto (tgt := 22) hx hb dX0_build_162 (by decide) ?_
                  exact ih (tu + 1) μl H locs ls (by omega) (by exact fr_trans hf (fr_trans FN f2_)) (by exact b2_) (by omega) hP hS (lv_sub hl [0, 2, 3, 4, 5] rfl)
                · refine lv_iload hx hb dX0_build_132 (lv_at hl 0 rfl) ?_
                  refine lv_iconst (v := iZ 5) hx hb dX0_build_134 rfl ?_
                  refine fz_icmp_ne (tgt := 150) (by constructor <;> omega) (by decide) hx hb dX0_build_135 (by decide) (fun c135_ => ?_) (fun c135_ => ?_)
                  · refine lv_aload_n hx hb dX0_build_150 rfl (lv_at hl 5 rfl) ?_
                    refine lv_aload_n hx hb dX0_build_151 rfl (lv_at hl 4 rfl) ?_
                    refine lv_aload_n hx hb dX0_build_152 rfl (lv_at hl 3 rfl) ?_
                    refine lv_iload hx hb dX0_build_153 (lv_at hl 0 rfl) ?_
                    refine lv_aload_n hx hb dX0_build_155 rfl (lv_at hl 2 rfl) ?_
                    refine va_callv (va_runV (As := [.ref (h0 + q), .ref (h0 + q2), .int (iZ (z6)), .ref (h0 + q3)]) (rest := []) ⟨hx, hb, hml, hown, hts⟩ (s_YfuseNext l dC dI cI cZ cII cIII h0 H.size μ (q) (rm) (q2) (rm2) (q3) (rm3) (z6) (hq) (hq2) (hq3) (by exact ha3) (by exact ha32) (by exact hGN) (by exact hG2N) (by exact h96) (by exact hv1) (by exact hww) (by omega) (by omega) (by
                                                have g0 : μ 41 6 = 0 := by unfold gOK at hg1; omega
                                                rw [g0, gI_0, Int.add_zero] at ho1
                                                exact ho1)) (cwV 4 hts (gV_G k828 k830 ks_yX0_fuseNext k7 k831) rfl rfl rfl (by decide +kernel) ⟨by show 3 + 1 ≤ _; omega, by show 8 + (6 + 11) + (62) ≤ _; omega⟩) ⟨fun a U g mk q => by obtain ⟨q0, q1, qP, qK, qM⟩ := q; exact ⟨q0, q1, qP, va_K.moved (u := U) (U := U.calling g mk a) (Vm.Alike.refl U.vm) qK, qM⟩, va_recv hK hP (ci := 0) (q0 := 41) rfl ((fw_get (by decide)).trans (by rw [sE_41])), fun U hU hW => ⟨rfl, by rw [hU], by rw [hU]; exact hP, va_K.moved hW.alike hK, xM_warm hW hM⟩⟩ rfl rfl hl.1 rfl (lv_room (Nat.le_of_ble_eq_true rfl)) dX0_build_156 ⟨hRc, hRs⟩) hS (fun q _ h => fA_le hS.1 q h) (fA_le hS.1) (fun u9 t9 H1 locs ht9 hvm9 hw9 hB9 hz9 hk9 hS => ?_)
                    obtain ⟨hP, -⟩ := hB9
                    rw [ht9] at hP
                    generalize H1 = H at hP hS ⊢
                    obtain ⟨μl, eμl⟩ : ∃ x : va_M, x = u9 := ⟨_, rfl⟩
                    rw [← eμl] at hP hw9
                    have hμl := hw9; clear hw9
                    obtain ⟨f2_, f3_, v3_, o3_, i2_⟩ := hμl
                    have g6_ : μl 41 6 = 0 := by unfold gOK at hg1; omega
                    have b2_ : bS μl q q2 q3 rm3 := ⟨v3_, Or.inl g6_, by rw [g6_, gI_0, Int.add_zero]; exact o3_⟩
                    refine lv_iinc (v := iZ (tu + 1)) (lv' := [(4, .int (iZ (tu + 1))), (5, .int (iZ (z6))), (3, .ref (h0 + q3)), (2, .ref (h0 + q2)), (1, .ref (h0 + q)), (0, .ref (h0 + 41))]) hx hb dX0_build_159 hl (k := 1) rfl (iZ_add _ _) (by decide) rfl (fun ls hl => ?_)
                    refine lv_goto (tgt := 22) hx hb dX0_build_162 (by decide) ?_
                    exact ih (tu + 1) μl H locs ls (by omega) (by exact fr_trans hf (fr_trans FN f2_)) (by exact b2_) (by omega) hP hS (lv_sub hl [0, 2, 3, 4, 5] rfl)
                  · refine lv_aload_n hx hb dX0_build_138 rfl (lv_at hl 5 rfl) ?_
                    refine lv_aload_n hx hb dX0_build_139 rfl (lv_at hl 4 rfl) ?_
                    refine lv_aload_n hx hb dX0_build_140 rfl (lv_at hl 3 rfl) ?_
                    refine lv_iload hx hb dX0_build_141 (lv_at hl 0 rfl) ?_
                    refine lv_aload_n hx hb dX0_build_143 rfl (lv_at hl 2 rfl) ?_
                    refine va_callv (va_runV (As := [.ref (h0 + q), .ref (h0 + q2), .int (iZ (z6)), .ref (h0 + q3)]) (rest := []) ⟨hx, hb, hml, hown, hts⟩ (s_YleaveOut l dC dI cI cZ cII cIII h0 H.size μ (q) (rm) (q2) (rm2) (q3) (rm3) (z6) (hq) (hq2) (hq3) (by exact ha3) (by exact ha32) (by exact hGN) (by exact hG2N) (by exact h96) (by exact hbs) (by
                                                rcases hww with h | h | h | h | h | h
                                                · exact absurd h.1 (by omega)
                                                · exact absurd h.1 (by omega)
                                                · exact absurd h.1 (by omega)
                                                · exact absurd h.1 (by omega)
                                                · exact Or.inl ⟨h.1, h.2.1, h.2.2⟩
                                                · exact Or.inr ⟨h.1, h.2.1, h.2.2⟩)) (cwV 4 hts (gV_G k820 k822 ks_yX0_leaveOut k7 k823) rfl rfl rfl (by decide +kernel) ⟨by show 3 + 1 ≤ _; omega, by show 8 + (8 + 11) + (59) ≤ _; omega⟩) ⟨fun a U g mk q => by obtain ⟨q0, q1, qP, qK, qM⟩ := q; exact ⟨q0, q1, qP, va_K.moved (u := U) (U := U.calling g mk a) (Vm.Alike.refl U.vm) qK, qM⟩, va_recv hK hP (ci := 0) (q0 := 41) rfl ((fw_get (by decide)).trans (by rw [sE_41])), fun U hU hW => ⟨rfl, by rw [hU], by rw [hU]; exact hP, va_K.moved hW.alike hK, xM_warm hW hM⟩⟩ rfl rfl hl.1 rfl (lv_room (Nat.le_of_ble_eq_true rfl)) dX0_build_144 ⟨hRc, hRs⟩) hS (fun q _ h => fA_le hS.1 q h) (fA_le hS.1) (fun u9 t9 H1 locs ht9 hvm9 hw9 hB9 hz9 hk9 hS => ?_)
                    obtain ⟨hP, -⟩ := hB9
                    rw [ht9] at hP
                    generalize H1 = H at hP hS ⊢
                    obtain ⟨μl, eμl⟩ : ∃ x : va_M, x = u9 := ⟨_, rfl⟩
                    rw [← eμl] at hP hw9
                    have hμl := hw9; clear hw9
                    obtain ⟨f2_, b2_, i2_⟩ := hμl
                    refine lv_goto (tgt := 159) hx hb dX0_build_147 (by decide) ?_
                    refine lv_iinc (v := iZ (tu + 1)) (lv' := [(4, .int (iZ (tu + 1))), (5, .int (iZ (z6))), (3, .ref (h0 + q3)), (2, .ref (h0 + q2)), (1, .ref (h0 + q)), (0, .ref (h0 + 41))]) hx hb dX0_build_159 hl (k := 1) rfl (iZ_add _ _) (by decide) rfl (fun ls hl => ?_)
                    refine lv_goto (tgt := 22) hx hb dX0_build_162 (by decide) ?_
                    exact ih (tu + 1) μl H locs ls (by omega) (by exact fr_trans hf (fr_trans FN f2_)) (by exact b2_) (by omega) hP hS (lv_sub hl [0, 2, 3, 4, 5] rfl)
              · have hil : μ 41 4 < μ q 5 := by
                  rcases hww with h | h | h | h | h | h
                  · exact absurd h.1 (by omega)
                  · exact absurd h.1 (by omega)
                  · exact absurd h.1 (by omega)
                  · exact absurd h.1 (by omega)
                  · exact h.2.1
                  · exact absurd h.1 (by omega)
                refine lv_aload_n hx hb dX0_build_99 rfl (lv_at hl 4 rfl) ?_
                refine fz_get (D := (dC, dI)) (ci := 4) (v := .ref (h0 + (q + 1))) (C := RX4) (T := TX4) (N := 8) hx hb hts inG4 hown hK hP (k := q) (by omega) (F := (sRF h0 q)) (sE_rowO hq) rfl 0 (by decide) (hts _ k80) (fun _ h9 => h9) rfl dX0_build_100 ?_
                refine lv_aload_n hx hb dX0_build_103 rfl (lv_at hl 5 rfl) ?_
                refine fz_get (D := (dC, dI)) (ci := 0) (v := .int (iZ (μ 41 4))) (C := RX0) (T := TX0) (N := 7) hx hb hts inG0 hown hK hP (k := 41) (by decide) (F := (sF41 h0)) sE_41 rfl 4 (by decide) (hts _ k186) (fun _ h9 => h9) rfl dX0_build_104 ?_
                refine fz_ld (k := (q + 1)) (n := rm) hx hb hK hP 0 (by omega) (sE_rowA (r := 1) hq (by decide)) rfl ⟨by omega, by omega⟩ (by omega) dX0_build_107 ?_
                refine lv_sipush (v := iZ 513) hx hb dX0_build_108 rfl ?_
                refine fz_icmp_ne (tgt := 126) (by constructor <;> omega) (by decide) hx hb dX0_build_111 (by decide) (fun c111_ => ?_) (fun c111_ => ?_)
                · have FN : fr (BQ q3) μ μ := fr_rfl
                  have e4 : μ 41 4 = μ 41 4 := rfl
                  have e5 : μ 41 5 = μ 41 5 := rfl
                  have xb : ag μ μ q := ag_BQ hq ha3 FN
                  have xb2 : ag μ μ q2 := ag_BQ hq2 ha32 FN
                  have hGN : rG μ q rm := rG_fr hG1 xb
                  have hG2N : rG μ q2 rm2 := rG_fr hG21 xb2
                  have n5 := ag_5 xb
                  have n25 := ag_5 xb2
                  have nE := ag_E xb
                  have nE2 := ag_E xb2
                  refine lv_iload hx hb dX0_build_126 (lv_at hl 0 rfl) ?_
                  refine lv_iconst (v := iZ 4) hx hb dX0_build_128 rfl ?_
                  refine fz_icmp_eq (tgt := 138) (by constructor <;> omega) (by decide) hx hb dX0_build_129 (by decide) (fun c129_ => ?_) (fun c129_ => ?_)
                  · refine lv_aload_n hx hb dX0_build_138 rfl (lv_at hl 5 rfl) ?_
                    refine lv_aload_n hx hb dX0_build_139 rfl (lv_at hl 4 rfl) ?_
                    refine lv_aload_n hx hb dX0_build_140 rfl (lv_at hl 3 rfl) ?_
                    refine lv_iload hx hb dX0_build_141 (lv_at hl 0 rfl) ?_
                    refine lv_aload_n hx hb dX0_build_143 rfl (lv_at hl 2 rfl) ?_
                    refine va_callv (va_runV (As := [.ref (h0 + q), .ref (h0 + q2), .int (iZ (z6)), .ref (h0 + q3)]) (rest := []) ⟨hx, hb, hml, hown, hts⟩ (s_YleaveOut l dC dI cI cZ cII cIII h0 H.size μ (q) (rm) (q2) (rm2) (q3) (rm3) (z6) (hq) (hq2) (hq3) (by exact ha3) (by exact ha32) (by exact hGN) (by exact hG2N) (by exact h96) (by exact hbs) (by
                                                rcases hww with h | h | h | h | h | h
                                                · exact absurd h.1 (by omega)
                                                · exact absurd h.1 (by omega)
                                                · exact absurd h.1 (by omega)
                                                · exact absurd h.1 (by omega)
                                                · exact Or.inl ⟨h.1, h.2.1, h.2.2⟩
                                                · exact Or.inr ⟨h.1, h.2.1, h.2.2⟩)) (cwV 4 hts (gV_G k820 k822 ks_yX0_leaveOut k7 k823) rfl rfl rfl (by decide +kernel) ⟨by show 3 + 1 ≤ _; omega, by show 8 + (8 + 11) + (59) ≤ _; omega⟩) ⟨fun a U g mk q => by obtain ⟨q0, q1, qP, qK, qM⟩ := q; exact ⟨q0, q1, qP, va_K.moved (u := U) (U := U.calling g mk a) (Vm.Alike.refl U.vm) qK, qM⟩, va_recv hK hP (ci := 0) (q0 := 41) rfl ((fw_get (by decide)).trans (by rw [sE_41])), fun U hU hW => ⟨rfl, by rw [hU], by rw [hU]; exact hP, va_K.moved hW.alike hK, xM_warm hW hM⟩⟩ rfl rfl hl.1 rfl (lv_room (Nat.le_of_ble_eq_true rfl)) dX0_build_144 ⟨hRc, hRs⟩) hS (fun q _ h => fA_le hS.1 q h) (fA_le hS.1) (fun u9 t9 H1 locs ht9 hvm9 hw9 hB9 hz9 hk9 hS => ?_)
                    obtain ⟨hP, -⟩ := hB9
                    rw [ht9] at hP
                    generalize H1 = H at hP hS ⊢
                    obtain ⟨μl, eμl⟩ : ∃ x : va_M, x = u9 := ⟨_, rfl⟩
                    rw [← eμl] at hP hw9
                    have hμl := hw9; clear hw9
                    obtain ⟨f2_, b2_, i2_⟩ := hμl
                    refine lv_goto (tgt := 159) hx hb dX0_build_147 (by decide) ?_
                    refine lv_iinc (v := iZ (tu + 1)) (lv' := [(4, .int (iZ (tu + 1))), (5, .int (iZ (z6))), (3, .ref (h0 + q3)), (2, .ref (h0 + q2)), (1, .ref (h0 + q)), (0, .ref (h0 + 41))]) hx hb dX0_build_159 hl (k := 1) rfl (iZ_add _ _) (by decide) rfl (fun ls hl => ?_)
                    refine lv_goto (tgt := 22) hx hb dX0_build_162 (by decide) ?_
                    exact ih (tu + 1) μl H locs ls (by omega) (by exact fr_trans hf (fr_trans FN f2_)) (by exact b2_) (by omega) hP hS (lv_sub hl [0, 2, 3, 4, 5] rfl)
                  · refine lv_iload hx hb dX0_build_132 (lv_at hl 0 rfl) ?_
                    refine lv_iconst (v := iZ 5) hx hb dX0_build_134 rfl ?_
                    refine fz_icmp_ne (tgt := 150) (by constructor <;> omega) (by decide) hx hb dX0_build_135 (by decide) (fun c135_ => ?_) (fun c135_ => ?_)
                    · refine lv_aload_n hx hb dX0_build_150 rfl (lv_at hl 5 rfl) ?_
                      refine lv_aload_n hx hb dX0_build_151 rfl (lv_at hl 4 rfl) ?_
                      refine lv_aload_n hx hb dX0_build_152 rfl (lv_at hl 3 rfl) ?_
                      refine lv_iload hx hb dX0_build_153 (lv_at hl 0 rfl) ?_
                      refine lv_aload_n hx hb dX0_build_155 rfl (lv_at hl 2 rfl) ?_
                      refine va_callv (va_runV (As := [.ref (h0 + q), .ref (h0 + q2), .int (iZ (z6)), .ref (h0 + q3)]) (rest := []) ⟨hx, hb, hml, hown, hts⟩ (s_YfuseNext l dC dI cI cZ cII cIII h0 H.size μ (q) (rm) (q2) (rm2) (q3) (rm3) (z6) (hq) (hq2) (hq3) (by exact ha3) (by exact ha32) (by exact hGN) (by exact hG2N) (by exact h96) (by exact hv1) (by exact hww) (by omega) (by omega) (by
                                                    have g0 : μ 41 6 = 0 := by unfold gOK at hg1; omega
                                                    rw [g0, gI_0, Int.add_zero] at ho1
                                                    exact ho1)) (cwV 4 hts (gV_G k828 k830 ks_yX0_fuseNext k7 k831) rfl rfl rfl (by decide +kernel) ⟨by show 3 + 1 ≤ _; omega, by show 8 + (6 + 11) + (62) ≤ _; omega⟩) ⟨fun a U g mk q => by obtain ⟨q0, q1, qP, qK, qM⟩ := q; exact ⟨q0, q1, qP, va_K.moved (u := U) (U := U.calling g mk a) (Vm.Alike.refl U.vm) qK, qM⟩, va_recv hK hP (ci := 0) (q0 := 41) rfl ((fw_get (by decide)).trans (by rw [sE_41])), fun U hU hW => ⟨rfl, by rw [hU], by rw [hU]; exact hP, va_K.moved hW.alike hK, xM_warm hW hM⟩⟩ rfl rfl hl.1 rfl (lv_room (Nat.le_of_ble_eq_true rfl)) dX0_build_156 ⟨hRc, hRs⟩) hS (fun q _ h => fA_le hS.1 q h) (fA_le hS.1) (fun u9 t9 H1 locs ht9 hvm9 hw9 hB9 hz9 hk9 hS => ?_)
                      obtain ⟨hP, -⟩ := hB9
                      rw [ht9] at hP
                      generalize H1 = H at hP hS ⊢
                      obtain ⟨μl, eμl⟩ : ∃ x : va_M, x = u9 := ⟨_, rfl⟩
                      rw [← eμl] at hP hw9
                      have hμl := hw9; clear hw9
                      obtain ⟨f2_, f3_, v3_, o3_, i2_⟩ := hμl
                      have g6_ : μl 41 6 = 0 := by unfold gOK at hg1; omega
                      have b2_ : bS μl q q2 q3 rm3 := ⟨v3_, Or.inl g6_, by rw [g6_, gI_0, Int.add_zero]; exact o3_⟩
                      refine lv_iinc (v := iZ (tu + 1)) (lv' := [(4, .int (iZ (tu + 1))), (5, .int (iZ (z6))), (3, .ref (h0 + q3)), (2, .ref (h0 + q2)), (1, .ref (h0 + q)), (0, .ref (h0 + 41))]) hx hb dX0_build_159 hl (k := 1) rfl (iZ_add _ _) (by decide) rfl (fun ls hl => ?_)
                      refine lv_goto (tgt := 22) hx hb dX0_build_162 (by decide) ?_
                      exact ih (tu + 1) μl H locs ls (by omega) (by exact fr_trans hf (fr_trans FN f2_)) (by exact b2_) (by omega) hP hS (lv_sub hl [0, 2, 3, 4, 5] rfl)
                    · refine lv_aload_n hx hb dX0_build_138 rfl (lv_at hl 5 rfl) ?_
                      refine lv_aload_n hx hb dX0_build_139 rfl (lv_at hl 4 rfl) ?_
                      refine lv_aload_n hx hb dX0_build_140 rfl (lv_at hl 3 rfl) ?_
                      refine lv_iload hx hb dX0_build_141 (lv_at hl 0 rfl) ?_
                      refine lv_aload_n hx hb dX0_build_143 rfl (lv_at hl 2 rfl) ?_
                      refine va_callv (va_runV (As := [.ref (h0 + q), .ref (h0 + q2), .int (iZ (z6)), .ref (h0 + q3)]) (rest := []) ⟨hx, hb, hml, hown, hts⟩ (s_YleaveOut l dC dI cI cZ cII cIII h0 H.size μ (q) (rm) (q2) (rm2) (q3) (rm3) (z6) (hq) (hq2) (hq3) (by exact ha3) (by exact ha32) (by exact hGN) (by exact hG2N) (by exact h96) (by exact hbs) (by
                                                    rcases hww with h | h | h | h | h | h
                                                    · exact absurd h.1 (by omega)
                                                    · exact absurd h.1 (by omega)
                                                    · exact absurd h.1 (by omega)
                                                    · exact absurd h.1 (by omega)
                                                    · exact Or.inl ⟨h.1, h.2.1, h.2.2⟩
                                                    · exact Or.inr ⟨h.1, h.2.1, h.2.2⟩)) (cwV 4 hts (gV_G k820 k822 ks_yX0_leaveOut k7 k823) rfl rfl rfl (by decide +kernel) ⟨by show 3 + 1 ≤ _; omega, by show 8 + (8 + 11) + (59) ≤ _; omega⟩) ⟨fun a U g mk q => by obtain ⟨q0, q1, qP, qK, qM⟩ := q; exact ⟨q0, q1, qP, va_K.moved (u := U) (U := U.calling g mk a) (Vm.Alike.refl U.vm) qK, qM⟩, va_recv hK hP (ci := 0) (q0 := 41) rfl ((fw_get (by decide)).trans (by rw [sE_41])), fun U hU hW => ⟨rfl, by rw [hU], by rw [hU]; exact hP, va_K.moved hW.alike hK, xM_warm hW hM⟩⟩ rfl rfl hl.1 rfl (lv_room (Nat.le_of_ble_eq_true rfl)) dX0_build_144 ⟨hRc, hRs⟩) hS (fun q _ h => fA_le hS.1 q h) (fA_le hS.1) (fun u9 t9 H1 locs ht9 hvm9 hw9 hB9 hz9 hk9 hS => ?_)
                      obtain ⟨hP, -⟩ := hB9
                      rw [ht9] at hP
                      generalize H1 = H at hP hS ⊢
                      obtain ⟨μl, eμl⟩ : ∃ x : va_M, x = u9 := ⟨_, rfl⟩
                      rw [← eμl] at hP hw9
                      have hμl := hw9; clear hw9
                      obtain ⟨f2_, b2_, i2_⟩ := hμl
                      refine lv_goto (tgt := 159) hx hb dX0_build_147 (by decide) ?_
                      refine lv_iinc (v := iZ (tu + 1)) (lv' := [(4, .int (iZ (tu + 1))), (5, .int (iZ (z6))), (3, .ref (h0 + q3)), (2, .ref (h0 + q2)), (1, .ref (h0 + q)), (0, .ref (h0 + 41))]) hx hb dX0_build_159 hl (k := 1) rfl (iZ_add _ _) (by decide) rfl (fun ls hl => ?_)
                      refine lv_goto (tgt := 22) hx hb dX0_build_162 (by decide) ?_
                      exact ih (tu + 1) μl H locs ls (by omega) (by exact fr_trans hf (fr_trans FN f2_)) (by exact b2_) (by omega) hP hS (lv_sub hl [0, 2, 3, 4, 5] rfl)
                · refine lv_aload_n hx hb dX0_build_114 rfl (lv_at hl 2 rfl) ?_
                  refine lv_sipush (v := iZ 515) hx hb dX0_build_115 rfl ?_
                  refine va_callv (va_runV (As := [.int (iZ (515))]) (rest := []) ⟨hx, hb, hml, hown, hts⟩ (s_Rput l dC dI cI cZ cII cIII h0 H.size μ (q3) (rm3) (515) (hq3) (by exact ho1.1)) (cwV 1 hts (gV_G k819 k411 k412 k3 k413) rfl rfl rfl (by decide +kernel) ⟨by show 1 + 1 ≤ _; omega, by show 8 + (2 + 11) + (14) ≤ _; omega⟩) ⟨fun a U g mk q => by obtain ⟨q0, q1, qP, qK, qM⟩ := q; exact ⟨q0, q1, qP, va_K.moved (u := U) (U := U.calling g mk a) (Vm.Alike.refl U.vm) qK, qM⟩, va_recv hK hP (ci := 4) (q0 := q3) rfl ((fw_get (by omega)).trans (by rw [(sE_rowO hq3)])), fun U hU hW => ⟨rfl, by rw [hU], by rw [hU]; exact hP, va_K.moved hW.alike hK, xM_warm hW hM⟩⟩ rfl rfl hl.1 rfl (lv_room (Nat.le_of_ble_eq_true rfl)) dX0_build_118 ⟨hRc, hRs⟩) hS (fun q _ h => fA_le hS.1 q h) (fA_le hS.1) (fun u9 t9 H1 locs ht9 hvm9 hw9 hB9 hz9 hk9 hS => ?_)
                  obtain ⟨hP, -⟩ := hB9
                  rw [ht9] at hP
                  generalize H1 = H at hP hS ⊢
                  obtain ⟨μo, eμo⟩ : ∃ x : va_M, x = u9 := ⟨_, rfl⟩
                  rw [← eμo] at hP hw9
                  have hμo := hw9; clear hw9
                  obtain ⟨c1, c2⟩ := hμo
                  have hDn := ((rG_bal hG1).2 (μ 41 4).toNat (by omega)).1
                  rw [gI_n (by omega)] at ho1
                  obtain ⟨o1_, f1_⟩ := outS_put ho1 (s := 515) (by unfold vS; omega) (by rw [dl_m]; omega) c1 c2
                  rw [dl_m] at o1_
                  refine lv_aload_n hx hb dX0_build_121 rfl (lv_at hl 5 rfl) ?_
                  refine lv_iconst (v := iZ 0) hx hb dX0_build_122 rfl ?_
                  refine fz_put (D := (dC, dI)) (ci := 0) (ty := .int) (z := 0) (C := RX0) (T := TX0) (N := 7) hx hb hts inG0 tyX0 tyX0_ok nmX0 hown hK hP fA_in hS (k := 41) (by decide) (F := (sF41 h0)) sE_41 rfl 6 (by decide) (hts _ k188) (fun _ h9 => h9) rfl (by decide +kernel) rfl rfl (fun _ => Nat.le_of_ble_eq_true rfl) (fun _ _ => rfl) dX0_build_123 (fun H locs hP hS => ?_)
                  obtain ⟨μ8, eμ8⟩ : ∃ x : va_M, x = uz μo 41 6 (0) := ⟨_, rfl⟩
                  rw [← eμ8] at hP
                  have FN : fr (BQ q3) μ μ8 := by rw [eμ8]; exact fr_uz (fr_mono f1_ (fun x y h => Or.inl h)) (Or.inr ⟨rfl, by decide, by decide⟩)
                  have e6 : μ8 41 6 = 0 := by rw [eμ8, uz_s]
                  have e4 : μ8 41 4 = μ 41 4 := by rw [eμ8, uz_n (by decide)]; exact f1_ _ _ (n41 hq3)
                  have e5 : μ8 41 5 = μ 41 5 := by rw [eμ8, uz_n (by decide)]; exact f1_ _ _ (n41 hq3)
                  have hoN : outS μ8 q3 rm3 (Dp (μ (q + 1)) (μ 41 4).toNat) := outS_at (of_w hq3 rfl o1_ (by rw [eμ8])) (by omega)
                  have xb : ag μ μ8 q := ag_BQ hq ha3 FN
                  have xb2 : ag μ μ8 q2 := ag_BQ hq2 ha32 FN
                  have hGN : rG μ8 q rm := rG_fr hG1 xb
                  have hG2N : rG μ8 q2 rm2 := rG_fr hG21 xb2
                  have n5 := ag_5 xb
                  have n25 := ag_5 xb2
                  have nE := ag_E xb
                  have nE2 := ag_E xb2
                  refine lv_iload hx hb dX0_build_126 (lv_at hl 0 rfl) ?_
                  refine lv_iconst (v := iZ 4) hx hb dX0_build_128 rfl ?_
                  refine fz_icmp_eq (tgt := 138) (by constructor <;> omega) (by decide) hx hb dX0_build_129 (by decide) (fun c129_ => ?_) (fun c129_ => ?_)
                  · refine lv_aload_n hx hb dX0_build_138 rfl (lv_at hl 5 rfl) ?_
                    refine lv_aload_n hx hb dX0_build_139 rfl (lv_at hl 4 rfl) ?_
                    refine lv_aload_n hx hb dX0_build_140 rfl (lv_at hl 3 rfl) ?_
                    refine lv_iload hx hb dX0_build_141 (lv_at hl 0 rfl) ?_
                    refine lv_aload_n hx hb dX0_build_143 rfl (lv_at hl 2 rfl) ?_
                    refine va_callv (va_runV (As := [.ref (h0 + q), .ref (h0 + q2), .int (iZ (z6)), .ref (h0 + q3)]) (rest := []) ⟨hx, hb, hml, hown, hts⟩ (s_YleaveOut l dC dI cI cZ cII cIII h0 H.size μ8 (q) (rm) (q2) (rm2) (q3) (rm3) (z6) (hq) (hq2) (hq3) (by exact ha3) (by exact ha32) (by exact hGN) (by exact hG2N) (by exact h96) (by
                                                refine ⟨by rw [vis_eq xb xb2, e4, e5]; exact hv1, Or.inl e6, ?_⟩
                                                rw [e6, gI_0, Int.add_zero, nE, e4]
                                                exact hoN) (by
                                                rw [e4, e5, n5, n25, nE, nE2]
                                                rcases hww with h | h | h | h | h | h
                                                · exact absurd h.1 (by omega)
                                                · exact absurd h.1 (by omega)
                                                · exact absurd h.1 (by omega)
                                                · exact absurd h.1 (by omega)
                                                · exact Or.inl ⟨h.1, h.2.1, h.2.2⟩
                                                · exact Or.inr ⟨h.1, h.2.1, h.2.2⟩)) (cwV 4 hts (gV_G k820 k822 ks_yX0_leaveOut k7 k823) rfl rfl rfl (by decide +kernel) ⟨by show 3 + 1 ≤ _; omega, by show 8 + (8 + 11) + (59) ≤ _; omega⟩) ⟨fun a U g mk q => by obtain ⟨q0, q1, qP, qK, qM⟩ := q; exact ⟨q0, q1, qP, va_K.moved (u := U) (U := U.calling g mk a) (Vm.Alike.refl U.vm) qK, qM⟩, va_recv hK hP (ci := 0) (q0 := 41) rfl ((fw_get (by decide)).trans (by rw [sE_41])), fun U hU hW => ⟨rfl, by rw [hU], by rw [hU]; exact hP, va_K.moved hW.alike hK, xM_warm hW hM⟩⟩ rfl rfl hl.1 rfl (lv_room (Nat.le_of_ble_eq_true rfl)) dX0_build_144 ⟨hRc, hRs⟩) hS (fun q _ h => fA_le hS.1 q h) (fA_le hS.1) (fun u9 t9 H1 locs ht9 hvm9 hw9 hB9 hz9 hk9 hS => ?_)
                    obtain ⟨hP, -⟩ := hB9
                    rw [ht9] at hP
                    generalize H1 = H at hP hS ⊢
                    obtain ⟨μl, eμl⟩ : ∃ x : va_M, x = u9 := ⟨_, rfl⟩
                    rw [← eμl] at hP hw9
                    have hμl := hw9; clear hw9
                    obtain ⟨f2_, b2_, i2_⟩ := hμl
                    refine lv_goto (tgt := 159) hx hb dX0_build_147 (by decide) ?_
                    refine lv_iinc (v := iZ (tu + 1)) (lv' := [(4, .int (iZ (tu + 1))), (5, .int (iZ (z6))), (3, .ref (h0 + q3)), (2, .ref (h0 + q2)), (1, .ref (h0 + q)), (0, .ref (h0 + 41))]) hx hb dX0_build_159 hl (k := 1) rfl (iZ_add _ _) (by decide) rfl (fun ls hl => ?_)
                    refine lv_goto (tgt := 22) hx hb dX0_build_162 (by decide) ?_
                    exact ih (tu + 1) μl H locs ls (by omega) (by exact fr_trans hf (fr_trans FN f2_)) (by exact b2_) (by omega) hP hS (lv_sub hl [0, 2, 3, 4, 5] rfl)
                  · refine lv_iload hx hb dX0_build_132 (lv_at hl 0 rfl) ?_
                    refine lv_iconst (v := iZ 5) hx hb dX0_build_134 rfl ?_
                    refine fz_icmp_ne (tgt := 150) (by constructor <;> omega) (by decide) hx hb dX0_build_135 (by decide) (fun c135_ => ?_) (fun c135_ => ?_)
                    · refine lv_aload_n hx hb dX0_build_150 rfl (lv_at hl 5 rfl) ?_
                      refine lv_aload_n hx hb dX0_build_151 rfl (lv_at hl 4 rfl) ?_
                      refine lv_aload_n hx hb dX0_build_152 rfl (lv_at hl 3 rfl) ?_
                      refine lv_iload hx hb dX0_build_153 (lv_at hl 0 rfl) ?_
                      refine lv_aload_n hx hb dX0_build_155 rfl (lv_at hl 2 rfl) ?_
                      refine va_callv (va_runV (As := [.ref (h0 + q), .ref (h0 + q2), .int (iZ (z6)), .ref (h0 + q3)]) (rest := []) ⟨hx, hb, hml, hown, hts⟩ (s_YfuseNext l dC dI cI cZ cII cIII h0 H.size μ8 (q) (rm) (q2) (rm2) (q3) (rm3) (z6) (hq) (hq2) (hq3) (by exact ha3) (by exact ha32) (by exact hGN) (by exact hG2N) (by exact h96) (by rw [vis_eq xb xb2, e4, e5]; exact hv1) (by rw [wOK_eq xb xb2, e4, e5]; exact hww) (by omega) (by omega) (by rw [nE, e4]; exact hoN)) (cwV 4 hts (gV_G k828 k830 ks_yX0_fuseNext k7 k831) rfl rfl rfl (by decide +kernel) ⟨by show 3 + 1 ≤ _; omega, by show 8 + (6 + 11) + (62) ≤ _; omega⟩) ⟨fun a U g mk q => by obtain ⟨q0, q1, qP, qK, qM⟩ := q; exact ⟨q0, q1, qP, va_K.moved (u := U) (U := U.calling g mk a) (Vm.Alike.refl U.vm) qK, qM⟩, va_recv hK hP (ci := 0) (q0 := 41) rfl ((fw_get (by decide)).trans (by rw [sE_41])), fun U hU hW => ⟨rfl, by rw [hU], by rw [hU]; exact hP, va_K.moved hW.alike hK, xM_warm hW hM⟩⟩ rfl rfl hl.1 rfl (lv_room (Nat.le_of_ble_eq_true rfl)) dX0_build_156 ⟨hRc, hRs⟩) hS (fun q _ h => fA_le hS.1 q h) (fA_le hS.1) (fun u9 t9 H1 locs ht9 hvm9 hw9 hB9 hz9 hk9 hS => ?_)
                      obtain ⟨hP, -⟩ := hB9
                      rw [ht9] at hP
                      generalize H1 = H at hP hS ⊢
                      obtain ⟨μl, eμl⟩ : ∃ x : va_M, x = u9 := ⟨_, rfl⟩
                      rw [← eμl] at hP hw9
                      have hμl := hw9; clear hw9
                      obtain ⟨f2_, f3_, v3_, o3_, i2_⟩ := hμl
                      have g6_ : μl 41 6 = 0 := by unfold gOK at hg1; omega
                      have b2_ : bS μl q q2 q3 rm3 := ⟨v3_, Or.inl g6_, by rw [g6_, gI_0, Int.add_zero]; exact o3_⟩
                      refine lv_iinc (v := iZ (tu + 1)) (lv' := [(4, .int (iZ (tu + 1))), (5, .int (iZ (z6))), (3, .ref (h0 + q3)), (2, .ref (h0 + q2)), (1, .ref (h0 + q)), (0, .ref (h0 + 41))]) hx hb dX0_build_159 hl (k := 1) rfl (iZ_add _ _) (by decide) rfl (fun ls hl => ?_)
                      refine lv_goto (tgt := 22) hx hb dX0_build_162 (by decide) ?_
                      exact ih (tu + 1) μl H locs ls (by omega) (by exact fr_trans hf (fr_trans FN f2_)) (by exact b2_) (by omega) hP hS (lv_sub hl [0, 2, 3, 4, 5] rfl)
                    · refine lv_aload_n hx hb dX0_build_138 rfl (lv_at hl 5 rfl) ?_
                      refine lv_aload_n hx hb dX0_build_139 rfl (lv_at hl 4 rfl) ?_
                      refine lv_aload_n hx hb dX0_build_140 rfl (lv_at hl 3 rfl) ?_
                      refine lv_iload hx hb dX0_build_141 (lv_at hl 0 rfl) ?_
                      refine lv_aload_n hx hb dX0_build_143 rfl (lv_at hl 2 rfl) ?_
                      refine va_callv (va_runV (As := [.ref (h0 + q), .ref (h0 + q2), .int (iZ (z6)), .ref (h0 + q3)]) (rest := []) ⟨hx, hb, hml, hown, hts⟩ (s_YleaveOut l dC dI cI cZ cII cIII h0 H.size μ8 (q) (rm) (q2) (rm2) (q3) (rm3) (z6) (hq) (hq2) (hq3) (by exact ha3) (by exact ha32) (by exact hGN) (by exact hG2N) (by exact h96) (by
                                                    refine ⟨by rw [vis_eq xb xb2, e4, e5]; exact hv1, Or.inl e6, ?_⟩
                                                    rw [e6, gI_0, Int.add_zero, nE, e4]
                                                    exact hoN) (by
                                                    rw [e4, e5, n5, n25, nE, nE2]
                                                    rcases hww with h | h | h | h | h | h
                                                    · exact absurd h.1 (by omega)
                                                    · exact absurd h.1 (by omega)
                                                    · exact absurd h.1 (by omega)
                                                    · exact absurd h.1 (by omega)
                                                    · exact Or.inl ⟨h.1, h.2.1, h.2.2⟩
                                                    · exact Or.inr ⟨h.1, h.2.1, h.2.2⟩)) (cwV 4 hts (gV_G k820 k822 ks_yX0_leaveOut k7 k823) rfl rfl rfl (by decide +kernel) ⟨by show 3 + 1 ≤ _; omega, by show 8 + (8 + 11) + (59) ≤ _; omega⟩) ⟨fun a U g mk q => by obtain ⟨q0, q1, qP, qK, qM⟩ := q; exact ⟨q0, q1, qP, va_K.moved (u := U) (U := U.calling g mk a) (Vm.Alike.refl U.vm) qK, qM⟩, va_recv hK hP (ci := 0) (q0 := 41) rfl ((fw_get (by decide)).trans (by rw [sE_41])), fun U hU hW => ⟨rfl, by rw [hU], by rw [hU]; exact hP, va_K.moved hW.alike hK, xM_warm hW hM⟩⟩ rfl rfl hl.1 rfl (lv_room (Nat.le_of_ble_eq_true rfl)) dX0_build_144 ⟨hRc, hRs⟩) hS (fun q _ h => fA_le hS.1 q h) (fA_le hS.1) (fun u9 t9 H1 locs ht9 hvm9 hw9 hB9 hz9 hk9 hS => ?_)
                      obtain ⟨hP, -⟩ := hB9
                      rw [ht9] at hP
                      generalize H1 = H at hP hS ⊢
                      obtain ⟨μl, eμl⟩ : ∃ x : va_M, x = u9 := ⟨_, rfl⟩
                      rw [← eμl] at hP hw9
                      have hμl := hw9; clear hw9
                      obtain ⟨f2_, b2_, i2_⟩ := hμl
                      refine lv_goto (tgt := 159) hx hb dX0_build_147 (by decide) ?_
                      refine lv_iinc (v := iZ (tu + 1)) (lv' := [(4, .int (iZ (tu + 1))), (5, .int (iZ (z6))), (3, .ref (h0 + q3)), (2, .ref (h0 + q2)), (1, .ref (h0 + q)), (0, .ref (h0 + 41))]) hx hb dX0_build_159 hl (k := 1) rfl (iZ_add _ _) (by decide) rfl (fun ls hl => ?_)
                      refine lv_goto (tgt := 22) hx hb dX0_build_162 (by decide) ?_
                      exact ih (tu + 1) μl H locs ls (by omega) (by exact fr_trans hf (fr_trans FN f2_)) (by exact b2_) (by omega) hP hS (lv_sub hl [0, 2, 3, 4, 5] rfl)
set_option maxHeartbeats 4000000 in
set_option maxRecDepth 100000 in
theorem s_Ybuild (l : Launch) (dC : Nat → ClassId) (dI : Nat → Nat → Nat) (cI cZ cII cIII : ClassId) (h0 sz : Nat) (μ : va_M) (q : Nat) (rm : Nat) (q2 : Nat) (rm2 : Nat) (q3 : Nat) (rm3 : Nat) (hq : rowB q rm) (hq2 : rowB q2 rm2) (hq3 : rowB q3 rm3) (ha3 : apart q3 q) (ha32 : apart q3 q2) (hG : rG μ q rm) (hG2 : rG μ q2 rm2) (h96 : rm2 = 96) (hLK : LK μ q q2) (hG3 : rG μ q3 rm3) : Met l yX0_build (Cond.code yX0_build cX0_build 6 none :: wsG) ({ frames := 4, cells := 0, slots := 0, locals := 87 } : Room) (va_Pc [.ref (h0 + 41), .ref (h0 + q), .ref (h0 + q2), .ref (h0 + q3)] (fun U => U.heap.size = sz ∧ va_P (dC, dI) vwCl (fw (sE cI cZ cII cIII h0) h0 233 μ) U.heap ∧ va_K (dC, dI) vwCl (sT cI cZ cII cIII) U ∧ xM U)) (va_Qv (fun (u : va_M) => rG u q3 rm3 ∧ fr (fun x y => LEq q3 x y ∨ (x = 41 ∧ 4 ≤ y ∧ y ≤ 6)) μ u) (fun u t => va_P (dC, dI) vwCl (fw (sE cI cZ cII cIII h0) h0 233 u) t.heap ∧ va_K (dC, dI) vwCl (sT cI cZ cII cIII) t) (fA h0 233 sz)) 0 0 (fA h0 233 sz) := by
  refine Met.ofW (cc := cX0_build) (maxL := 6) (ret := none) (by decide) rfl ?_
  intro p e s m args below meth c s₁ B hml hv
  obtain ⟨rfl, hsz, hP, hK, hM⟩ := hv
  have hx := B.exec
  have hb := B.bytes
  have hr := B.returns
  have hts : ∀ w ∈ wsG, w.before _ s = true := hG_of (atoms_spec (ws := (Cond.code yX0_build cX0_build 6 none :: wsG)) B.pre)
  have hown : s.vm.findClass RX0 = some m.cls := findClass_of_methodNamed B.named
  have hlocks := B.notSynchronized
  subst hsz
  have hS : va_S (fA h0 233 s.heap.size) s.heap s.heap [] := va_S.rf
  have hl := lv_entry ([.ref (h0 + 41), .ref (h0 + q), .ref (h0 + q2), .ref (h0 + q3)]) (n := 6) (Nat.le_of_ble_eq_true rfl)
  rw [lg_entry_eq]
  generalize (lg_sl ([.ref (h0 + 41), .ref (h0 + q), .ref (h0 + q2), .ref (h0 + q3)]) ++ List.replicate (6 - (lg_sl ([.ref (h0 + 41), .ref (h0 + q), .ref (h0 + q2), .ref (h0 + q3)])).length) Slot.unset).toArray = ls at hl ⊢
  have hl : lv_has ls 6 [(0, .ref (h0 + 41)), (1, .ref (h0 + q)), (2, .ref (h0 + q2)), (3, .ref (h0 + q3))] := hl
  have hqb := rowB_c hq
  have hqb2 := rowB_c hq2
  have hqb3 := rowB_c hq3
  have hrm := rG_rc hq hG
  have hrm2 := rG_rc hq2 hG2
  refine lv_aload_n hx hb dX0_build_0 rfl (lv_at hl 3 rfl) ?_
  refine va_callv (va_runV (As := []) (rest := []) ⟨hx, hb, hml, hown, hts⟩ (s_Rempty l dC dI cI cZ cII cIII h0 s.heap.size μ (q3) (rm3) (hq3)) (cwV 0 hts (gV_G k817 k407 k408 k3 k409) rfl rfl rfl (by decide +kernel) ⟨Nat.le_of_ble_eq_true rfl, Nat.le_of_ble_eq_true rfl⟩) ⟨fun a U g mk q => by obtain ⟨q0, q1, qP, qK, qM⟩ := q; exact ⟨q0, q1, qP, va_K.moved (u := U) (U := U.calling g mk a) (Vm.Alike.refl U.vm) qK, qM⟩, va_recv hK hP (ci := 4) (q0 := q3) rfl ((fw_get (by omega)).trans (by rw [(sE_rowO hq3)])), fun U hU hW => ⟨rfl, by rw [hU], by rw [hU]; exact hP, va_K.moved hW.alike hK, xM_warm hW hM⟩⟩ rfl rfl hl.1 rfl (lv_room (Nat.le_of_ble_eq_true rfl)) dX0_build_1 ⟨Nat.le_of_ble_eq_true rfl, Nat.le_of_ble_eq_true rfl⟩) hS (fun q _ h => fA_le hS.1 q h) (fA_le hS.1) (fun u9 t9 H1 locs ht9 hvm9 hw9 hB9 hz9 hk9 hS => ?_)
  obtain ⟨hP, -⟩ := hB9
  rw [ht9] at hP
  generalize H1 = H at hP hS ⊢
  obtain ⟨μe, eμe⟩ : ∃ x : va_M, x = u9 := ⟨_, rfl⟩
  rw [← eμe] at hP hw9
  have hμe := hw9; clear hw9
  have he := hμe
  refine lv_aload_n hx hb dX0_build_4 rfl (lv_at hl 0 rfl) ?_
  refine lv_iconst (v := iZ 0) hx hb dX0_build_5 rfl ?_
  refine fz_put (D := (dC, dI)) (ci := 0) (ty := .int) (z := 0) (C := RX0) (T := TX0) (N := 7) hx hb hts inG0 tyX0 tyX0_ok nmX0 hown hK hP fA_in hS (k := 41) (by decide) (F := (sF41 h0)) sE_41 rfl 4 (by decide) (hts _ k186) (fun _ h9 => h9) rfl (by decide +kernel) rfl rfl (fun _ => Nat.le_of_ble_eq_true rfl) (fun _ _ => rfl) dX0_build_6 (fun H locs hP hS => ?_)
  obtain ⟨μ10, eμ10⟩ : ∃ x : va_M, x = uz μe 41 4 (0) := ⟨_, rfl⟩
  rw [← eμ10] at hP
  refine lv_aload_n hx hb dX0_build_9 rfl (lv_at hl 0 rfl) ?_
  refine lv_iconst (v := iZ 0) hx hb dX0_build_10 rfl ?_
  refine fz_put (D := (dC, dI)) (ci := 0) (ty := .int) (z := 0) (C := RX0) (T := TX0) (N := 7) hx hb hts inG0 tyX0 tyX0_ok nmX0 hown hK hP fA_in hS (k := 41) (by decide) (F := (sF41 h0)) sE_41 rfl 5 (by decide) (hts _ k187) (fun _ h9 => h9) rfl (by decide +kernel) rfl rfl (fun _ => Nat.le_of_ble_eq_true rfl) (fun _ _ => rfl) dX0_build_11 (fun H locs hP hS => ?_)
  obtain ⟨μ11, eμ11⟩ : ∃ x : va_M, x = uz μ10 41 5 (0) := ⟨_, rfl⟩
  rw [← eμ11] at hP
  refine lv_aload_n hx hb dX0_build_14 rfl (lv_at hl 0 rfl) ?_
  refine lv_iconst (v := iZ 0) hx hb dX0_build_15 rfl ?_
  refine fz_put (D := (dC, dI)) (ci := 0) (ty := .int) (z := 0) (C := RX0) (T := TX0) (N := 7) hx hb hts inG0 tyX0 tyX0_ok nmX0 hown hK hP fA_in hS (k := 41) (by decide) (F := (sF41 h0)) sE_41 rfl 6 (by decide) (hts _ k188) (fun _ h9 => h9) rfl (by decide +kernel) rfl rfl (fun _ => Nat.le_of_ble_eq_true rfl) (fun _ _ => rfl) dX0_build_16 (fun H locs hP hS => ?_)
  obtain ⟨μ12, eμ12⟩ : ∃ x : va_M, x = uz μ11 41 6 (0) := ⟨_, rfl⟩
  rw [← eμ12] at hP
  refine lv_iconst (v := iZ 0) hx hb dX0_build_19 rfl ?_
  have E4 : μ12 41 4 = 0 := by rw [eμ12, eμ11, eμ10, uz_n (by omega), uz_n (by omega), uz_s]
  have E5 : μ12 41 5 = 0 := by rw [eμ12, eμ11, eμ10, uz_n (by omega), uz_s]
  have E6 : μ12 41 6 = 0 := by rw [eμ12, eμ11, eμ10, uz_s]
  have F0 : fr (BQ q3) μ μ12 := by
    rw [eμ12, eμ11, eμ10]
    refine fr_uz (fr_uz (fr_uz ?_ (Or.inr ⟨rfl, by decide, by decide⟩)) (Or.inr ⟨rfl, by decide, by decide⟩)) (Or.inr ⟨rfl, by decide, by decide⟩)
    rw [he]
    exact fr_uz (fr_uz fr_rfl (Or.inl (Or.inl rfl))) (Or.inl (Or.inl rfl))
  have O0 : outS μ12 q3 rm3 0 := by
    refine outS_0 (fun i => ?_) ?_ ?_
    · rw [eμ12, eμ11, eμ10, uz_n (r41b hq3), uz_n (r41b hq3), uz_n (r41b hq3), he, uz_n (by omega), uz_n (by omega)]
      exact hG3.1 i
    · rw [eμ12, eμ11, eμ10, uz_n (r41c hq3), uz_n (r41c hq3), uz_n (r41c hq3), he, uz_n (by omega), uz_s]
    · rw [eμ12, eμ11, eμ10, uz_n (r41c hq3), uz_n (r41c hq3), uz_n (r41c hq3), he, uz_s]
  refine lv_istore (lv' := [(4, .int (iZ (0))), (0, .ref (h0 + 41)), (1, .ref (h0 + q)), (2, .ref (h0 + q2)), (3, .ref (h0 + q3))]) hx hb dX0_build_20 hl (by decide) rfl (fun ls hl => ?_)
  refine LX0_build_22 hx hb hml hown hts hK hM (Nat.le_of_ble_eq_true rfl) (Nat.le_of_ble_eq_true rfl) (Nat.le_of_ble_eq_true rfl) (Nat.le_of_ble_eq_true rfl) (μ) (q) (rm) (q2) (rm2) (q3) (rm3) (by assumption) (by assumption) (by assumption) (by assumption) (by assumption) (by exact hG) (by exact hG2) (by exact h96) (by exact hLK) ?_ _ (0) μ12 H locs ls (by omega) (by exact F0) (by
            have A0 : ag μ μ12 q := ag_BQ hq ha3 F0
            have B0 : ag μ μ12 q2 := ag_BQ hq2 ha32 F0
            refine ⟨by rw [vis_eq A0 B0, E4, E5]; exact vis_0 hG hG2, Or.inl E6, ?_⟩
            rw [E4, E6, gI_0, Int.add_zero, show (0 : Int).toNat = 0 from rfl]
            exact O0) (Nat.lt_succ_self _) hP hS (lv_sub hl [0, 4, 3, 2, 1] rfl)
  · intro tu_13 μ13_ H locs ls q1_13 q2_13 q3_13 hP hS hl
    have hl : lv_has ls 6 [(3, .ref (h0 + q3)), (0, .ref (h0 + 41))] := hl
    have Q1 := q1_13
    have Q2 := q2_13
    have Q3 := q3_13
    have Q4 : 0 ≤ μ13_ 41 6 ∧ μ13_ 41 6 ≤ 5 := by unfold gOK at Q3; omega
    refine lv_aload_n hx hb dX0_build_165 rfl (lv_at hl 1 rfl) ?_
    refine fz_get (D := (dC, dI)) (ci := 0) (v := .int (iZ (μ13_ 41 6))) (C := RX0) (T := TX0) (N := 7) hx hb hts inG0 hown hK hP (k := 41) (by decide) (F := (sF41 h0)) sE_41 rfl 6 (by decide) (hts _ k188) (fun _ h9 => h9) rfl dX0_build_166 ?_
    refine fz_if_eq (tgt := 179) (by constructor <;> omega) hx hb dX0_build_169 (by decide) (fun c169_ => ?_) (fun c169_ => ?_)
    · have OZ : outS μ13_ q3 rm3 0 ∧ fr (BQ q3) μ μ13_ := ⟨outS_at Q2 (by rw [show μ13_ 41 6 = 0 by omega]; rfl), Q1⟩
      obtain ⟨OZ1, OZ2⟩ := OZ
      obtain ⟨w, w1_, w2_, w3_⟩ := outS_w OZ1
      have MZ : mA μ13_ q3 rm3 := fun y => by rw [OZ2 _ _ (BQ_2 hq3)]; exact hG3.2.1 y
      refine lv_aload_n hx hb dX0_build_179 rfl (lv_at hl 0 rfl) ?_
      refine va_callv (va_runV (As := []) (rest := []) ⟨hx, hb, hml, hown, hts⟩ (s_Rseal l dC dI cI cZ cII cIII h0 H.size μ13_ (q3) (rm3) (w) (hq3) (by exact OZ1.1) (by exact ⟨w1_, w3_⟩)) (cwV 0 hts (gV_G k836 k415 k416 k3 k417) rfl rfl rfl (by decide +kernel) ⟨Nat.le_of_ble_eq_true rfl, Nat.le_of_ble_eq_true rfl⟩) ⟨fun a U g mk q => by obtain ⟨q0, q1, qP, qK, qM⟩ := q; exact ⟨q0, q1, qP, va_K.moved (u := U) (U := U.calling g mk a) (Vm.Alike.refl U.vm) qK, qM⟩, va_recv hK hP (ci := 4) (q0 := q3) rfl ((fw_get (by omega)).trans (by rw [(sE_rowO hq3)])), fun U hU hW => ⟨rfl, by rw [hU], by rw [hU]; exact hP, va_K.moved hW.alike hK, xM_warm hW hM⟩⟩ rfl rfl hl.1 rfl (lv_room (Nat.le_of_ble_eq_true rfl)) dX0_build_180 ⟨Nat.le_of_ble_eq_true rfl, Nat.le_of_ble_eq_true rfl⟩) hS (fun q _ h => fA_le hS.1 q h) (fA_le hS.1) (fun u9 t9 H1 locs ht9 hvm9 hw9 hB9 hz9 hk9 hS => ?_)
      obtain ⟨hP, -⟩ := hB9
      rw [ht9] at hP
      generalize H1 = H at hP hS ⊢
      obtain ⟨μs, eμs⟩ : ∃ x : va_M, x = u9 := ⟨_, rfl⟩
      rw [← eμs] at hP hw9
      have hμs := hw9; clear hw9
      obtain ⟨r5_, f5_⟩ := hμs
      exact W.vret hx hb hr (fun t9 ht9 hW9 => ⟨⟨μs, rfl, (by
                    try dsimp only
                    exact ⟨rG_seal w1_ w2_ w3_ OZ1.2.1 MZ r5_ f5_, fr_trans (fr_mono OZ2 (fun x y h => by unfold BQ at h; unfold LEq; omega)) (fr_mono f5_ (fun x y h => by unfold SEw SEq at h; unfold LEq; omega))⟩), by rw [ht9]; exact hP, va_K.moved hW9.alike hK⟩, hS.F ht9⟩) hS.2.2 dX0_build_183
    · refine lv_aload_n hx hb dX0_build_172 rfl (lv_at hl 0 rfl) ?_
      refine lv_sipush (v := iZ 515) hx hb dX0_build_173 rfl ?_
      refine va_callv (va_runV (As := [.int (iZ (515))]) (rest := []) ⟨hx, hb, hml, hown, hts⟩ (s_Rput l dC dI cI cZ cII cIII h0 H.size μ13_ (q3) (rm3) (515) (hq3) (by exact Q2.1)) (cwV 1 hts (gV_G k819 k411 k412 k3 k413) rfl rfl rfl (by decide +kernel) ⟨Nat.le_of_ble_eq_true rfl, Nat.le_of_ble_eq_true rfl⟩) ⟨fun a U g mk q => by obtain ⟨q0, q1, qP, qK, qM⟩ := q; exact ⟨q0, q1, qP, va_K.moved (u := U) (U := U.calling g mk a) (Vm.Alike.refl U.vm) qK, qM⟩, va_recv hK hP (ci := 4) (q0 := q3) rfl ((fw_get (by omega)).trans (by rw [(sE_rowO hq3)])), fun U hU hW => ⟨rfl, by rw [hU], by rw [hU]; exact hP, va_K.moved hW.alike hK, xM_warm hW hM⟩⟩ rfl rfl hl.1 rfl (lv_room (Nat.le_of_ble_eq_true rfl)) dX0_build_176 ⟨Nat.le_of_ble_eq_true rfl, Nat.le_of_ble_eq_true rfl⟩) hS (fun q _ h => fA_le hS.1 q h) (fA_le hS.1) (fun u9 t9 H1 locs ht9 hvm9 hw9 hB9 hz9 hk9 hS => ?_)
      obtain ⟨hP, -⟩ := hB9
      rw [ht9] at hP
      generalize H1 = H at hP hS ⊢
      obtain ⟨μc, eμc⟩ : ∃ x : va_M, x = u9 := ⟨_, rfl⟩
      rw [← eμc] at hP hw9
      have hμc := hw9; clear hw9
      obtain ⟨c1, c2⟩ := hμc
      rw [gI_n (by omega)] at Q2
      obtain ⟨o4_, f4_⟩ := outS_put Q2 (s := 515) (by unfold vS; omega) (by rw [dl_m]; decide) c1 c2
      rw [dl_m] at o4_
      have OZ : outS μc q3 rm3 0 ∧ fr (BQ q3) μ μc := ⟨outS_at o4_ (by decide), fr_trans Q1 (fr_mono f4_ (fun x y h => Or.inl h))⟩
      obtain ⟨OZ1, OZ2⟩ := OZ
      obtain ⟨w, w1_, w2_, w3_⟩ := outS_w OZ1
      have MZ : mA μc q3 rm3 := fun y => by rw [OZ2 _ _ (BQ_2 hq3)]; exact hG3.2.1 y
      refine lv_aload_n hx hb dX0_build_179 rfl (lv_at hl 0 rfl) ?_
      refine va_callv (va_runV (As := []) (rest := []) ⟨hx, hb, hml, hown, hts⟩ (s_Rseal l dC dI cI cZ cII cIII h0 H.size μc (q3) (rm3) (w) (hq3) (by exact OZ1.1) (by exact ⟨w1_, w3_⟩)) (cwV 0 hts (gV_G k836 k415 k416 k3 k417) rfl rfl rfl (by decide +kernel) ⟨Nat.le_of_ble_eq_true rfl, Nat.le_of_ble_eq_true rfl⟩) ⟨fun a U g mk q => by obtain ⟨q0, q1, qP, qK, qM⟩ := q; exact ⟨q0, q1, qP, va_K.moved (u := U) (U := U.calling g mk a) (Vm.Alike.refl U.vm) qK, qM⟩, va_recv hK hP (ci := 4) (q0 := q3) rfl ((fw_get (by omega)).trans (by rw [(sE_rowO hq3)])), fun U hU hW => ⟨rfl, by rw [hU], by rw [hU]; exact hP, va_K.moved hW.alike hK, xM_warm hW hM⟩⟩ rfl rfl hl.1 rfl (lv_room (Nat.le_of_ble_eq_true rfl)) dX0_build_180 ⟨Nat.le_of_ble_eq_true rfl, Nat.le_of_ble_eq_true rfl⟩) hS (fun q _ h => fA_le hS.1 q h) (fA_le hS.1) (fun u9 t9 H1 locs ht9 hvm9 hw9 hB9 hz9 hk9 hS => ?_)
      obtain ⟨hP, -⟩ := hB9
      rw [ht9] at hP
      generalize H1 = H at hP hS ⊢
      obtain ⟨μs, eμs⟩ : ∃ x : va_M, x = u9 := ⟨_, rfl⟩
      rw [← eμs] at hP hw9
      have hμs := hw9; clear hw9
      obtain ⟨r5_, f5_⟩ := hμs
      exact W.vret hx hb hr (fun t9 ht9 hW9 => ⟨⟨μs, rfl, (by
                    try dsimp only
                    exact ⟨rG_seal w1_ w2_ w3_ OZ1.2.1 MZ r5_ f5_, fr_trans (fr_mono OZ2 (fun x y h => by unfold BQ at h; unfold LEq; omega)) (fr_mono f5_ (fun x y h => by unfold SEw SEq at h; unfold LEq; omega))⟩), by rw [ht9]; exact hP, va_K.moved hW9.alike hK⟩, hS.F ht9⟩) hS.2.2 dX0_build_183

set_option maxRecDepth 100000 in
theorem k42 : (Cond.fieldLink "PageSkeleton" (113 : Nat) "PageSkeleton$Texts" "found" "[I") ∈ wsG := wsG_a1 42 rfl rfl
set_option maxRecDepth 100000 in
theorem k44 : (Cond.fieldLink "PageSkeleton" (116 : Nat) "PageSkeleton$Texts" "foundCount" "I") ∈ wsG := wsG_a1 44 rfl rfl
set_option maxRecDepth 100000 in
theorem k682 : (Cond.methodLink "PageSkeleton" (109 : Nat) ({ cls := "PageSkeleton$Texts", name := "readText", desc := "(I)I" } : MethodName)) ∈ wsG := wsG_a3 202 rfl rfl
set_option maxRecDepth 100000 in
theorem k683 : (Cond.instanceMethod ({ cls := "PageSkeleton$Texts", name := "readText", desc := "(I)I" } : MethodName)) ∈ wsG := wsG_a3 203 rfl rfl
set_option maxRecDepth 100000 in
theorem k684 : (Cond.selects "PageSkeleton$Texts" ({ cls := "PageSkeleton$Texts", name := "readText", desc := "(I)I" } : MethodName) ({ cls := "PageSkeleton$Texts", name := "readText", desc := "(I)I" } : MethodName)) ∈ wsG := wsG_a3 204 rfl rfl
set_option maxRecDepth 100000 in
theorem k685 : (Cond.code ({ cls := "PageSkeleton$Texts", name := "readText", desc := "(I)I" } : MethodName) prog_7_method_3_code (5 : Nat) (Option.some FieldType.int)) ∈ wsG := wsG_a3 205 rfl rfl
set_option maxRecDepth 100000 in
theorem k710 : (Cond.methodLink "PageSkeleton" (119 : Nat) ({ cls := "PageSkeleton$Leaf", name := "become", desc := "([IILPageSkeleton$Texts;)V" } : MethodName)) ∈ wsG := wsG_a3 230 rfl rfl
set_option maxRecDepth 100000 in
theorem k711 : (Cond.instanceMethod ({ cls := "PageSkeleton$Leaf", name := "become", desc := "([IILPageSkeleton$Texts;)V" } : MethodName)) ∈ wsG := wsG_a3 231 rfl rfl
set_option maxRecDepth 100000 in
theorem k712 : (Cond.selects "PageSkeleton$Leaf" ({ cls := "PageSkeleton$Leaf", name := "become", desc := "([IILPageSkeleton$Texts;)V" } : MethodName) ({ cls := "PageSkeleton$Leaf", name := "become", desc := "([IILPageSkeleton$Texts;)V" } : MethodName)) ∈ wsG := wsG_a3 232 rfl rfl
set_option maxRecDepth 100000 in
theorem k713 : (Cond.code ({ cls := "PageSkeleton$Leaf", name := "become", desc := "([IILPageSkeleton$Texts;)V" } : MethodName) prog_3_method_2_code (5 : Nat) (Option.none : Option Jvm.ClassFile.FieldType)) ∈ wsG := wsG_a3 233 rfl rfl
set_option maxRecDepth 100000 in
theorem k722 : (Cond.methodLink "PageSkeleton" (123 : Nat) ({ cls := "PageSkeleton$Leaf", name := "foldAll", desc := "(LPageSkeleton$Tidier;)V" } : MethodName)) ∈ wsG := wsG_a4 2 rfl rfl
set_option maxRecDepth 100000 in
theorem k723 : (Cond.instanceMethod ({ cls := "PageSkeleton$Leaf", name := "foldAll", desc := "(LPageSkeleton$Tidier;)V" } : MethodName)) ∈ wsG := wsG_a4 3 rfl rfl
set_option maxRecDepth 100000 in
theorem k724 : (Cond.selects "PageSkeleton$Leaf" ({ cls := "PageSkeleton$Leaf", name := "foldAll", desc := "(LPageSkeleton$Tidier;)V" } : MethodName) ({ cls := "PageSkeleton$Leaf", name := "foldAll", desc := "(LPageSkeleton$Tidier;)V" } : MethodName)) ∈ wsG := wsG_a4 4 rfl rfl
set_option maxRecDepth 100000 in
theorem k725 : (Cond.code ({ cls := "PageSkeleton$Leaf", name := "foldAll", desc := "(LPageSkeleton$Tidier;)V" } : MethodName) prog_3_method_3_code (3 : Nat) (Option.none : Option Jvm.ClassFile.FieldType)) ∈ wsG := wsG_a4 5 rfl rfl
set_option maxRecDepth 100000 in
theorem k889 : (Cond.methodLink "PageSkeleton" (196 : Nat) ({ cls := "PageSkeleton$Texts", name := "sortOf", desc := "(I)I" } : MethodName)) ∈ wsG := wsG_a4 169 rfl rfl
set_option maxRecDepth 100000 in
theorem k890 : (Cond.methodLink "PageSkeleton" (199 : Nat) ({ cls := "PageSkeleton$Texts", name := "lettersOf", desc := "(I)I" } : MethodName)) ∈ wsG := wsG_a4 170 rfl rfl
set_option maxRecDepth 100000 in
theorem k891 : (Cond.instanceMethod ({ cls := "PageSkeleton$Texts", name := "lettersOf", desc := "(I)I" } : MethodName)) ∈ wsG := wsG_a4 171 rfl rfl
set_option maxRecDepth 100000 in
theorem k892 : (Cond.selects "PageSkeleton$Texts" ({ cls := "PageSkeleton$Texts", name := "lettersOf", desc := "(I)I" } : MethodName) ({ cls := "PageSkeleton$Texts", name := "lettersOf", desc := "(I)I" } : MethodName)) ∈ wsG := wsG_a4 172 rfl rfl
set_option maxRecDepth 100000 in
theorem k893 : (Cond.code ({ cls := "PageSkeleton$Texts", name := "lettersOf", desc := "(I)I" } : MethodName) prog_7_method_11_code (4 : Nat) (Option.some FieldType.int)) ∈ wsG := wsG_a4 173 rfl rfl
set_option maxRecDepth 100000 in
theorem k894 : (Cond.methodLink "PageSkeleton" (202 : Nat) ({ cls := "PageSkeleton", name := "pagesWith", desc := "(I)I" } : MethodName)) ∈ wsG := wsG_a4 174 rfl rfl
set_option maxRecDepth 100000 in
theorem k896 : (Cond.instanceMethod ({ cls := "PageSkeleton", name := "pagesWith", desc := "(I)I" } : MethodName)) ∈ wsG := wsG_a4 176 rfl rfl
set_option maxRecDepth 100000 in
theorem k897 : (Cond.code ({ cls := "PageSkeleton", name := "pagesWith", desc := "(I)I" } : MethodName) prog_1_method_51_code (4 : Nat) (Option.some FieldType.int)) ∈ wsG := wsG_a4 177 rfl rfl
set_option maxRecDepth 100000 in
theorem k902 : (Cond.methodLink "PageSkeleton" (205 : Nat) ({ cls := "PageSkeleton$Texts", name := "letterOf", desc := "(II)I" } : MethodName)) ∈ wsG := wsG_a4 182 rfl rfl
set_option maxRecDepth 100000 in
theorem k903 : (Cond.instanceMethod ({ cls := "PageSkeleton$Texts", name := "letterOf", desc := "(II)I" } : MethodName)) ∈ wsG := wsG_a4 183 rfl rfl
set_option maxRecDepth 100000 in
theorem k904 : (Cond.selects "PageSkeleton$Texts" ({ cls := "PageSkeleton$Texts", name := "letterOf", desc := "(II)I" } : MethodName) ({ cls := "PageSkeleton$Texts", name := "letterOf", desc := "(II)I" } : MethodName)) ∈ wsG := wsG_a4 184 rfl rfl
set_option maxRecDepth 100000 in
theorem k905 : (Cond.code ({ cls := "PageSkeleton$Texts", name := "letterOf", desc := "(II)I" } : MethodName) prog_7_method_12_code (6 : Nat) (Option.some FieldType.int)) ∈ wsG := wsG_a4 185 rfl rfl
set_option maxRecDepth 100000 in
theorem k906 : (Cond.methodLink "PageSkeleton$Texts" (57 : Nat) ({ cls := "PageSkeleton$Texts", name := "lettersOf", desc := "(I)I" } : MethodName)) ∈ wsG := wsG_a4 186 rfl rfl
set_option maxRecDepth 100000 in
theorem k1008 : (Cond.methodLink "PageSkeleton" (247 : Nat) ({ cls := "PageSkeleton", name := "seeWords", desc := "(II)I" } : MethodName)) ∈ wsG := wsG_a5 48 rfl rfl
set_option maxRecDepth 100000 in
theorem k1010 : (Cond.instanceMethod ({ cls := "PageSkeleton", name := "seeWords", desc := "(II)I" } : MethodName)) ∈ wsG := wsG_a5 50 rfl rfl
set_option maxRecDepth 100000 in
theorem k1011 : (Cond.code ({ cls := "PageSkeleton", name := "seeWords", desc := "(II)I" } : MethodName) prog_1_method_52_code (7 : Nat) (Option.some FieldType.int)) ∈ wsG := wsG_a5 51 rfl rfl
set_option maxRecDepth 100000 in
theorem ks_yX9_pagesWith : Cond.selects RX9 yX9_pagesWith yX9_pagesWith ∈ wsG := wsG_p 33 rfl rfl
set_option maxRecDepth 100000 in
theorem ks_yX9_seeWords : Cond.selects RX9 yX9_seeWords yX9_seeWords ∈ wsG := wsG_p 39 rfl rfl
theorem dX5_letterOf_0 : decode cX5_letterOf 0 = .ok (.aload_n 0, 1) := by decide +kernel
theorem dX5_letterOf_1 : decode cX5_letterOf 1 = .ok (.getfield 19, 3) := by decide +kernel
theorem dX5_letterOf_4 : decode cX5_letterOf 4 = .ok (.iload_n 1, 1) := by decide +kernel
theorem dX5_letterOf_5 : decode cX5_letterOf 5 = .ok (.iaload, 1) := by decide +kernel
theorem dX5_letterOf_6 : decode cX5_letterOf 6 = .ok (.iconst 3, 1) := by decide +kernel
theorem dX5_letterOf_7 : decode cX5_letterOf 7 = .ok (.idiv, 1) := by decide +kernel
theorem dX5_letterOf_8 : decode cX5_letterOf 8 = .ok (.istore_n 3, 1) := by decide +kernel
theorem dX5_letterOf_9 : decode cX5_letterOf 9 = .ok (.aload_n 0, 1) := by decide +kernel
theorem dX5_letterOf_10 : decode cX5_letterOf 10 = .ok (.iload_n 1, 1) := by decide +kernel
theorem dX5_letterOf_11 : decode cX5_letterOf 11 = .ok (.invokevirtual 57, 3) := by decide +kernel
theorem dX5_letterOf_14 : decode cX5_letterOf 14 = .ok (.iconst 1, 1) := by decide +kernel
theorem dX5_letterOf_15 : decode cX5_letterOf 15 = .ok (.isub, 1) := by decide +kernel
theorem dX5_letterOf_16 : decode cX5_letterOf 16 = .ok (.iload_n 2, 1) := by decide +kernel
theorem dX5_letterOf_17 : decode cX5_letterOf 17 = .ok (.isub, 1) := by decide +kernel
theorem dX5_letterOf_18 : decode cX5_letterOf 18 = .ok (.istore 4, 2) := by decide +kernel
theorem dX5_letterOf_20 : decode cX5_letterOf 20 = .ok (.iconst 0, 1) := by decide +kernel
theorem dX5_letterOf_21 : decode cX5_letterOf 21 = .ok (.istore 5, 2) := by decide +kernel
theorem dX5_letterOf_23 : decode cX5_letterOf 23 = .ok (.iload 5, 2) := by decide +kernel
theorem dX5_letterOf_25 : decode cX5_letterOf 25 = .ok (.iload 4, 2) := by decide +kernel
theorem dX5_letterOf_27 : decode cX5_letterOf 27 = .ok (.if_icmp .ge 14, 3) := by decide +kernel
theorem dX5_letterOf_30 : decode cX5_letterOf 30 = .ok (.iload_n 3, 1) := by decide +kernel
theorem dX5_letterOf_31 : decode cX5_letterOf 31 = .ok (.bipush 27, 2) := by decide +kernel
theorem dX5_letterOf_33 : decode cX5_letterOf 33 = .ok (.idiv, 1) := by decide +kernel
theorem dX5_letterOf_34 : decode cX5_letterOf 34 = .ok (.istore_n 3, 1) := by decide +kernel
theorem dX5_letterOf_35 : decode cX5_letterOf 35 = .ok (.iinc 5 1, 3) := by decide +kernel
theorem dX5_letterOf_38 : decode cX5_letterOf 38 = .ok (.goto (-15), 3) := by decide +kernel
theorem dX5_letterOf_41 : decode cX5_letterOf 41 = .ok (.iload 4, 2) := by decide +kernel
theorem dX5_letterOf_43 : decode cX5_letterOf 43 = .ok (.ifCond .ge 7, 3) := by decide +kernel
theorem dX5_letterOf_46 : decode cX5_letterOf 46 = .ok (.iconst (-1), 1) := by decide +kernel
theorem dX5_letterOf_47 : decode cX5_letterOf 47 = .ok (.goto 9, 3) := by decide +kernel
theorem dX5_letterOf_50 : decode cX5_letterOf 50 = .ok (.iload_n 3, 1) := by decide +kernel
theorem dX5_letterOf_51 : decode cX5_letterOf 51 = .ok (.bipush 27, 2) := by decide +kernel
theorem dX5_letterOf_53 : decode cX5_letterOf 53 = .ok (.irem, 1) := by decide +kernel
theorem dX5_letterOf_54 : decode cX5_letterOf 54 = .ok (.iconst 1, 1) := by decide +kernel
theorem dX5_letterOf_55 : decode cX5_letterOf 55 = .ok (.isub, 1) := by decide +kernel
theorem dX5_letterOf_56 : decode cX5_letterOf 56 = .ok (.ireturn, 1) := by decide +kernel
theorem dX5_lettersOf_0 : decode cX5_lettersOf 0 = .ok (.iconst 0, 1) := by decide +kernel
theorem dX5_lettersOf_1 : decode cX5_lettersOf 1 = .ok (.istore_n 2, 1) := by decide +kernel
theorem dX5_lettersOf_2 : decode cX5_lettersOf 2 = .ok (.aload_n 0, 1) := by decide +kernel
theorem dX5_lettersOf_3 : decode cX5_lettersOf 3 = .ok (.getfield 19, 3) := by decide +kernel
theorem dX5_lettersOf_6 : decode cX5_lettersOf 6 = .ok (.iload_n 1, 1) := by decide +kernel
theorem dX5_lettersOf_7 : decode cX5_lettersOf 7 = .ok (.iaload, 1) := by decide +kernel
theorem dX5_lettersOf_8 : decode cX5_lettersOf 8 = .ok (.iconst 3, 1) := by decide +kernel
theorem dX5_lettersOf_9 : decode cX5_lettersOf 9 = .ok (.idiv, 1) := by decide +kernel
theorem dX5_lettersOf_10 : decode cX5_lettersOf 10 = .ok (.istore_n 3, 1) := by decide +kernel
theorem dX5_lettersOf_11 : decode cX5_lettersOf 11 = .ok (.iload_n 2, 1) := by decide +kernel
theorem dX5_lettersOf_12 : decode cX5_lettersOf 12 = .ok (.bipush 6, 2) := by decide +kernel
theorem dX5_lettersOf_14 : decode cX5_lettersOf 14 = .ok (.if_icmp .ge 18, 3) := by decide +kernel
theorem dX5_lettersOf_17 : decode cX5_lettersOf 17 = .ok (.iload_n 3, 1) := by decide +kernel
theorem dX5_lettersOf_18 : decode cX5_lettersOf 18 = .ok (.ifCond .le 14, 3) := by decide +kernel
theorem dX5_lettersOf_21 : decode cX5_lettersOf 21 = .ok (.iload_n 3, 1) := by decide +kernel
theorem dX5_lettersOf_22 : decode cX5_lettersOf 22 = .ok (.bipush 27, 2) := by decide +kernel
theorem dX5_lettersOf_24 : decode cX5_lettersOf 24 = .ok (.idiv, 1) := by decide +kernel
theorem dX5_lettersOf_25 : decode cX5_lettersOf 25 = .ok (.istore_n 3, 1) := by decide +kernel
theorem dX5_lettersOf_26 : decode cX5_lettersOf 26 = .ok (.iinc 2 1, 3) := by decide +kernel
theorem dX5_lettersOf_29 : decode cX5_lettersOf 29 = .ok (.goto (-18), 3) := by decide +kernel
theorem dX5_lettersOf_32 : decode cX5_lettersOf 32 = .ok (.iload_n 2, 1) := by decide +kernel
theorem dX5_lettersOf_33 : decode cX5_lettersOf 33 = .ok (.ireturn, 1) := by decide +kernel
theorem dX9_page_0 : decode cX9_page 0 = .ok (.aload_n 0, 1) := by decide +kernel
theorem dX9_page_1 : decode cX9_page 1 = .ok (.iload_n 1, 1) := by decide +kernel
theorem dX9_page_2 : decode cX9_page 2 = .ok (.ifCond .lt 18, 3) := by decide +kernel
theorem dX9_page_5 : decode cX9_page 5 = .ok (.iload_n 1, 1) := by decide +kernel
theorem dX9_page_6 : decode cX9_page 6 = .ok (.aload_n 0, 1) := by decide +kernel
theorem dX9_page_7 : decode cX9_page 7 = .ok (.getfield 10, 3) := by decide +kernel
theorem dX9_page_10 : decode cX9_page 10 = .ok (.getfield 96, 3) := by decide +kernel
theorem dX9_page_13 : decode cX9_page 13 = .ok (.if_icmp .gt 7, 3) := by decide +kernel
theorem dX9_page_16 : decode cX9_page 16 = .ok (.iconst 1, 1) := by decide +kernel
theorem dX9_page_17 : decode cX9_page 17 = .ok (.goto 4, 3) := by decide +kernel
theorem dX9_page_20 : decode cX9_page 20 = .ok (.iconst 0, 1) := by decide +kernel
theorem dX9_page_21 : decode cX9_page 21 = .ok (.invokevirtual 102, 3) := by decide +kernel
theorem dX9_page_24 : decode cX9_page 24 = .ok (.aload_n 0, 1) := by decide +kernel
theorem dX9_page_25 : decode cX9_page 25 = .ok (.aload_n 0, 1) := by decide +kernel
theorem dX9_page_26 : decode cX9_page 26 = .ok (.getfield 22, 3) := by decide +kernel
theorem dX9_page_29 : decode cX9_page 29 = .ok (.bipush 8, 2) := by decide +kernel
theorem dX9_page_31 : decode cX9_page 31 = .ok (.if_icmp .ge 7, 3) := by decide +kernel
theorem dX9_page_34 : decode cX9_page 34 = .ok (.iconst 1, 1) := by decide +kernel
theorem dX9_page_35 : decode cX9_page 35 = .ok (.goto 4, 3) := by decide +kernel
theorem dX9_page_38 : decode cX9_page 38 = .ok (.iconst 0, 1) := by decide +kernel
theorem dX9_page_39 : decode cX9_page 39 = .ok (.invokevirtual 106, 3) := by decide +kernel
theorem dX9_page_42 : decode cX9_page 42 = .ok (.aload_n 0, 1) := by decide +kernel
theorem dX9_page_43 : decode cX9_page 43 = .ok (.getfield 10, 3) := by decide +kernel
theorem dX9_page_46 : decode cX9_page 46 = .ok (.iload_n 1, 1) := by decide +kernel
theorem dX9_page_47 : decode cX9_page 47 = .ok (.invokevirtual 109, 3) := by decide +kernel
theorem dX9_page_50 : decode cX9_page 50 = .ok (.istore_n 2, 1) := by decide +kernel
theorem dX9_page_51 : decode cX9_page 51 = .ok (.aload_n 0, 1) := by decide +kernel
theorem dX9_page_52 : decode cX9_page 52 = .ok (.getfield 10, 3) := by decide +kernel
theorem dX9_page_55 : decode cX9_page 55 = .ok (.iconst 0, 1) := by decide +kernel
theorem dX9_page_56 : decode cX9_page 56 = .ok (.putfield 96, 3) := by decide +kernel
theorem dX9_page_59 : decode cX9_page 59 = .ok (.iload_n 2, 1) := by decide +kernel
theorem dX9_page_60 : decode cX9_page 60 = .ok (.ifCond .eq 8, 3) := by decide +kernel
theorem dX9_page_63 : decode cX9_page 63 = .ok (.iload_n 2, 1) := by decide +kernel
theorem dX9_page_64 : decode cX9_page 64 = .ok (.bipush 10, 2) := by decide +kernel
theorem dX9_page_66 : decode cX9_page 66 = .ok (.isub, 1) := by decide +kernel
theorem dX9_page_67 : decode cX9_page 67 = .ok (.ireturn, 1) := by decide +kernel
theorem dX9_page_68 : decode cX9_page 68 = .ok (.aload_n 0, 1) := by decide +kernel
theorem dX9_page_69 : decode cX9_page 69 = .ok (.getfield 18, 3) := by decide +kernel
theorem dX9_page_72 : decode cX9_page 72 = .ok (.aload_n 0, 1) := by decide +kernel
theorem dX9_page_73 : decode cX9_page 73 = .ok (.getfield 22, 3) := by decide +kernel
theorem dX9_page_76 : decode cX9_page 76 = .ok (.aaload, 1) := by decide +kernel
theorem dX9_page_77 : decode cX9_page 77 = .ok (.aload_n 0, 1) := by decide +kernel
theorem dX9_page_78 : decode cX9_page 78 = .ok (.getfield 10, 3) := by decide +kernel
theorem dX9_page_81 : decode cX9_page 81 = .ok (.getfield 113, 3) := by decide +kernel
theorem dX9_page_84 : decode cX9_page 84 = .ok (.aload_n 0, 1) := by decide +kernel
theorem dX9_page_85 : decode cX9_page 85 = .ok (.getfield 10, 3) := by decide +kernel
theorem dX9_page_88 : decode cX9_page 88 = .ok (.getfield 116, 3) := by decide +kernel
theorem dX9_page_91 : decode cX9_page 91 = .ok (.aload_n 0, 1) := by decide +kernel
theorem dX9_page_92 : decode cX9_page 92 = .ok (.getfield 10, 3) := by decide +kernel
theorem dX9_page_95 : decode cX9_page 95 = .ok (.invokevirtual 119, 3) := by decide +kernel
theorem dX9_page_98 : decode cX9_page 98 = .ok (.aload_n 0, 1) := by decide +kernel
theorem dX9_page_99 : decode cX9_page 99 = .ok (.getfield 18, 3) := by decide +kernel
theorem dX9_page_102 : decode cX9_page 102 = .ok (.aload_n 0, 1) := by decide +kernel
theorem dX9_page_103 : decode cX9_page 103 = .ok (.getfield 22, 3) := by decide +kernel
theorem dX9_page_106 : decode cX9_page 106 = .ok (.aaload, 1) := by decide +kernel
theorem dX9_page_107 : decode cX9_page 107 = .ok (.aload_n 0, 1) := by decide +kernel
theorem dX9_page_108 : decode cX9_page 108 = .ok (.getfield 54, 3) := by decide +kernel
theorem dX9_page_111 : decode cX9_page 111 = .ok (.invokevirtual 123, 3) := by decide +kernel
theorem dX9_page_114 : decode cX9_page 114 = .ok (.aload_n 0, 1) := by decide +kernel
theorem dX9_page_115 : decode cX9_page 115 = .ok (.dup, 1) := by decide +kernel
theorem dX9_page_116 : decode cX9_page 116 = .ok (.getfield 22, 3) := by decide +kernel
theorem dX9_page_119 : decode cX9_page 119 = .ok (.iconst 1, 1) := by decide +kernel
theorem dX9_page_120 : decode cX9_page 120 = .ok (.iadd, 1) := by decide +kernel
theorem dX9_page_121 : decode cX9_page 121 = .ok (.putfield 22, 3) := by decide +kernel
theorem dX9_page_124 : decode cX9_page 124 = .ok (.aload_n 0, 1) := by decide +kernel
theorem dX9_page_125 : decode cX9_page 125 = .ok (.getfield 22, 3) := by decide +kernel
theorem dX9_page_128 : decode cX9_page 128 = .ok (.iconst 1, 1) := by decide +kernel
theorem dX9_page_129 : decode cX9_page 129 = .ok (.isub, 1) := by decide +kernel
theorem dX9_page_130 : decode cX9_page 130 = .ok (.ireturn, 1) := by decide +kernel
theorem dX9_seeWords_0 : decode cX9_seeWords 0 = .ok (.aload_n 0, 1) := by decide +kernel
theorem dX9_seeWords_1 : decode cX9_seeWords 1 = .ok (.iload_n 1, 1) := by decide +kernel
theorem dX9_seeWords_2 : decode cX9_seeWords 2 = .ok (.invokevirtual 215, 3) := by decide +kernel
theorem dX9_seeWords_5 : decode cX9_seeWords 5 = .ok (.astore_n 3, 1) := by decide +kernel
theorem dX9_seeWords_6 : decode cX9_seeWords 6 = .ok (.iconst 0, 1) := by decide +kernel
theorem dX9_seeWords_7 : decode cX9_seeWords 7 = .ok (.istore 4, 2) := by decide +kernel
theorem dX9_seeWords_9 : decode cX9_seeWords 9 = .ok (.aload_n 3, 1) := by decide +kernel
theorem dX9_seeWords_10 : decode cX9_seeWords 10 = .ok (.invokevirtual 219, 3) := by decide +kernel
theorem dX9_seeWords_13 : decode cX9_seeWords 13 = .ok (.ifCond .eq 72, 3) := by decide +kernel
theorem dX9_seeWords_16 : decode cX9_seeWords 16 = .ok (.iconst 0, 1) := by decide +kernel
theorem dX9_seeWords_17 : decode cX9_seeWords 17 = .ok (.istore 5, 2) := by decide +kernel
theorem dX9_seeWords_19 : decode cX9_seeWords 19 = .ok (.iload 5, 2) := by decide +kernel
theorem dX9_seeWords_21 : decode cX9_seeWords 21 = .ok (.aload_n 0, 1) := by decide +kernel
theorem dX9_seeWords_22 : decode cX9_seeWords 22 = .ok (.getfield 18, 3) := by decide +kernel
theorem dX9_seeWords_25 : decode cX9_seeWords 25 = .ok (.iload_n 1, 1) := by decide +kernel
theorem dX9_seeWords_26 : decode cX9_seeWords 26 = .ok (.aaload, 1) := by decide +kernel
theorem dX9_seeWords_27 : decode cX9_seeWords 27 = .ok (.getfield 180, 3) := by decide +kernel
theorem dX9_seeWords_30 : decode cX9_seeWords 30 = .ok (.if_icmp .ge 55, 3) := by decide +kernel
theorem dX9_seeWords_33 : decode cX9_seeWords 33 = .ok (.aload_n 0, 1) := by decide +kernel
theorem dX9_seeWords_34 : decode cX9_seeWords 34 = .ok (.getfield 18, 3) := by decide +kernel
theorem dX9_seeWords_37 : decode cX9_seeWords 37 = .ok (.iload_n 1, 1) := by decide +kernel
theorem dX9_seeWords_38 : decode cX9_seeWords 38 = .ok (.aaload, 1) := by decide +kernel
theorem dX9_seeWords_39 : decode cX9_seeWords 39 = .ok (.getfield 191, 3) := by decide +kernel
theorem dX9_seeWords_42 : decode cX9_seeWords 42 = .ok (.iload 5, 2) := by decide +kernel
theorem dX9_seeWords_44 : decode cX9_seeWords 44 = .ok (.iaload, 1) := by decide +kernel
theorem dX9_seeWords_45 : decode cX9_seeWords 45 = .ok (.istore 6, 2) := by decide +kernel
theorem dX9_seeWords_47 : decode cX9_seeWords 47 = .ok (.aload_n 3, 1) := by decide +kernel
theorem dX9_seeWords_48 : decode cX9_seeWords 48 = .ok (.getfield 244, 3) := by decide +kernel
theorem dX9_seeWords_51 : decode cX9_seeWords 51 = .ok (.iload 5, 2) := by decide +kernel
theorem dX9_seeWords_53 : decode cX9_seeWords 53 = .ok (.iaload, 1) := by decide +kernel
theorem dX9_seeWords_54 : decode cX9_seeWords 54 = .ok (.iload_n 2, 1) := by decide +kernel
theorem dX9_seeWords_55 : decode cX9_seeWords 55 = .ok (.if_icmp .ne 24, 3) := by decide +kernel
theorem dX9_seeWords_58 : decode cX9_seeWords 58 = .ok (.aload_n 0, 1) := by decide +kernel
theorem dX9_seeWords_59 : decode cX9_seeWords 59 = .ok (.getfield 83, 3) := by decide +kernel
theorem dX9_seeWords_62 : decode cX9_seeWords 62 = .ok (.iload 6, 2) := by decide +kernel
theorem dX9_seeWords_64 : decode cX9_seeWords 64 = .ok (.iaload, 1) := by decide +kernel
theorem dX9_seeWords_65 : decode cX9_seeWords 65 = .ok (.ifCond .ne 14, 3) := by decide +kernel
theorem dX9_seeWords_68 : decode cX9_seeWords 68 = .ok (.aload_n 0, 1) := by decide +kernel
theorem dX9_seeWords_69 : decode cX9_seeWords 69 = .ok (.getfield 83, 3) := by decide +kernel
theorem dX9_seeWords_72 : decode cX9_seeWords 72 = .ok (.iload 6, 2) := by decide +kernel
theorem dX9_seeWords_74 : decode cX9_seeWords 74 = .ok (.iconst 1, 1) := by decide +kernel
theorem dX9_seeWords_75 : decode cX9_seeWords 75 = .ok (.iastore, 1) := by decide +kernel
theorem dX9_seeWords_76 : decode cX9_seeWords 76 = .ok (.iinc 4 1, 3) := by decide +kernel
theorem dX9_seeWords_79 : decode cX9_seeWords 79 = .ok (.iinc 5 1, 3) := by decide +kernel
theorem dX9_seeWords_82 : decode cX9_seeWords 82 = .ok (.goto (-63), 3) := by decide +kernel
theorem dX9_seeWords_85 : decode cX9_seeWords 85 = .ok (.iload 4, 2) := by decide +kernel
theorem dX9_seeWords_87 : decode cX9_seeWords 87 = .ok (.ireturn, 1) := by decide +kernel
theorem dX9_tokenOf_0 : decode cX9_tokenOf 0 = .ok (.aload_n 0, 1) := by decide +kernel
theorem dX9_tokenOf_1 : decode cX9_tokenOf 1 = .ok (.iload_n 1, 1) := by decide +kernel
theorem dX9_tokenOf_2 : decode cX9_tokenOf 2 = .ok (.ifCond .lt 18, 3) := by decide +kernel
theorem dX9_tokenOf_5 : decode cX9_tokenOf 5 = .ok (.iload_n 1, 1) := by decide +kernel
theorem dX9_tokenOf_6 : decode cX9_tokenOf 6 = .ok (.aload_n 0, 1) := by decide +kernel
theorem dX9_tokenOf_7 : decode cX9_tokenOf 7 = .ok (.getfield 10, 3) := by decide +kernel
theorem dX9_tokenOf_10 : decode cX9_tokenOf 10 = .ok (.getfield 174, 3) := by decide +kernel
theorem dX9_tokenOf_13 : decode cX9_tokenOf 13 = .ok (.if_icmp .ge 7, 3) := by decide +kernel
theorem dX9_tokenOf_16 : decode cX9_tokenOf 16 = .ok (.iconst 1, 1) := by decide +kernel
theorem dX9_tokenOf_17 : decode cX9_tokenOf 17 = .ok (.goto 4, 3) := by decide +kernel
theorem dX9_tokenOf_20 : decode cX9_tokenOf 20 = .ok (.iconst 0, 1) := by decide +kernel
theorem dX9_tokenOf_21 : decode cX9_tokenOf 21 = .ok (.invokevirtual 193, 3) := by decide +kernel
theorem dX9_tokenOf_24 : decode cX9_tokenOf 24 = .ok (.aload_n 0, 1) := by decide +kernel
theorem dX9_tokenOf_25 : decode cX9_tokenOf 25 = .ok (.iload_n 2, 1) := by decide +kernel
theorem dX9_tokenOf_26 : decode cX9_tokenOf 26 = .ok (.ifCond .lt 13, 3) := by decide +kernel
theorem dX9_tokenOf_29 : decode cX9_tokenOf 29 = .ok (.iload_n 2, 1) := by decide +kernel
theorem dX9_tokenOf_30 : decode cX9_tokenOf 30 = .ok (.bipush 8, 2) := by decide +kernel
theorem dX9_tokenOf_32 : decode cX9_tokenOf 32 = .ok (.if_icmp .gt 7, 3) := by decide +kernel
theorem dX9_tokenOf_35 : decode cX9_tokenOf 35 = .ok (.iconst 1, 1) := by decide +kernel
theorem dX9_tokenOf_36 : decode cX9_tokenOf 36 = .ok (.goto 4, 3) := by decide +kernel
theorem dX9_tokenOf_39 : decode cX9_tokenOf 39 = .ok (.iconst 0, 1) := by decide +kernel
theorem dX9_tokenOf_40 : decode cX9_tokenOf 40 = .ok (.invokevirtual 102, 3) := by decide +kernel
theorem dX9_tokenOf_43 : decode cX9_tokenOf 43 = .ok (.iload_n 2, 1) := by decide +kernel
theorem dX9_tokenOf_44 : decode cX9_tokenOf 44 = .ok (.lookupswitch 60 #[(0, 36), (1, 45), (8, 54)], 36) := by decide +kernel
theorem dX9_tokenOf_80 : decode cX9_tokenOf 80 = .ok (.aload_n 0, 1) := by decide +kernel
theorem dX9_tokenOf_81 : decode cX9_tokenOf 81 = .ok (.getfield 10, 3) := by decide +kernel
theorem dX9_tokenOf_84 : decode cX9_tokenOf 84 = .ok (.iload_n 1, 1) := by decide +kernel
theorem dX9_tokenOf_85 : decode cX9_tokenOf 85 = .ok (.invokevirtual 196, 3) := by decide +kernel
theorem dX9_tokenOf_88 : decode cX9_tokenOf 88 = .ok (.ireturn, 1) := by decide +kernel
theorem dX9_tokenOf_89 : decode cX9_tokenOf 89 = .ok (.aload_n 0, 1) := by decide +kernel
theorem dX9_tokenOf_90 : decode cX9_tokenOf 90 = .ok (.getfield 10, 3) := by decide +kernel
theorem dX9_tokenOf_93 : decode cX9_tokenOf 93 = .ok (.iload_n 1, 1) := by decide +kernel
theorem dX9_tokenOf_94 : decode cX9_tokenOf 94 = .ok (.invokevirtual 199, 3) := by decide +kernel
theorem dX9_tokenOf_97 : decode cX9_tokenOf 97 = .ok (.ireturn, 1) := by decide +kernel
theorem dX9_tokenOf_98 : decode cX9_tokenOf 98 = .ok (.aload_n 0, 1) := by decide +kernel
theorem dX9_tokenOf_99 : decode cX9_tokenOf 99 = .ok (.iload_n 1, 1) := by decide +kernel
theorem dX9_tokenOf_100 : decode cX9_tokenOf 100 = .ok (.invokevirtual 202, 3) := by decide +kernel
theorem dX9_tokenOf_103 : decode cX9_tokenOf 103 = .ok (.ireturn, 1) := by decide +kernel
theorem dX9_tokenOf_104 : decode cX9_tokenOf 104 = .ok (.aload_n 0, 1) := by decide +kernel
theorem dX9_tokenOf_105 : decode cX9_tokenOf 105 = .ok (.getfield 10, 3) := by decide +kernel
theorem dX9_tokenOf_108 : decode cX9_tokenOf 108 = .ok (.iload_n 1, 1) := by decide +kernel
theorem dX9_tokenOf_109 : decode cX9_tokenOf 109 = .ok (.iload_n 2, 1) := by decide +kernel
theorem dX9_tokenOf_110 : decode cX9_tokenOf 110 = .ok (.iconst 2, 1) := by decide +kernel
theorem dX9_tokenOf_111 : decode cX9_tokenOf 111 = .ok (.isub, 1) := by decide +kernel
theorem dX9_tokenOf_112 : decode cX9_tokenOf 112 = .ok (.invokevirtual 205, 3) := by decide +kernel
theorem dX9_tokenOf_115 : decode cX9_tokenOf 115 = .ok (.ireturn, 1) := by decide +kernel
theorem dX9_unlike_0 : decode cX9_unlike 0 = .ok (.aload_n 0, 1) := by decide +kernel
theorem dX9_unlike_1 : decode cX9_unlike 1 = .ok (.aload_n 0, 1) := by decide +kernel
theorem dX9_unlike_2 : decode cX9_unlike 2 = .ok (.getfield 31, 3) := by decide +kernel
theorem dX9_unlike_5 : decode cX9_unlike 5 = .ok (.iload_n 1, 1) := by decide +kernel
theorem dX9_unlike_6 : decode cX9_unlike 6 = .ok (.invokevirtual 209, 3) := by decide +kernel
theorem dX9_unlike_9 : decode cX9_unlike 9 = .ok (.aload_n 0, 1) := by decide +kernel
theorem dX9_unlike_10 : decode cX9_unlike 10 = .ok (.getfield 31, 3) := by decide +kernel
theorem dX9_unlike_13 : decode cX9_unlike 13 = .ok (.iload_n 1, 1) := by decide +kernel
theorem dX9_unlike_14 : decode cX9_unlike 14 = .ok (.invokevirtual 238, 3) := by decide +kernel
theorem dX9_unlike_17 : decode cX9_unlike 17 = .ok (.sipush 512, 3) := by decide +kernel
theorem dX9_unlike_20 : decode cX9_unlike 20 = .ok (.if_icmp .eq 5, 3) := by decide +kernel
theorem dX9_unlike_23 : decode cX9_unlike 23 = .ok (.iconst (-1), 1) := by decide +kernel
theorem dX9_unlike_24 : decode cX9_unlike 24 = .ok (.ireturn, 1) := by decide +kernel
theorem dX9_unlike_25 : decode cX9_unlike 25 = .ok (.aload_n 0, 1) := by decide +kernel
theorem dX9_unlike_26 : decode cX9_unlike 26 = .ok (.getfield 83, 3) := by decide +kernel
theorem dX9_unlike_29 : decode cX9_unlike 29 = .ok (.iconst 0, 1) := by decide +kernel
theorem dX9_unlike_30 : decode cX9_unlike 30 = .ok (.invokestatic 90, 3) := by decide +kernel
theorem dX9_unlike_33 : decode cX9_unlike 33 = .ok (.iconst 0, 1) := by decide +kernel
theorem dX9_unlike_34 : decode cX9_unlike 34 = .ok (.istore_n 2, 1) := by decide +kernel
theorem dX9_unlike_35 : decode cX9_unlike 35 = .ok (.iconst 0, 1) := by decide +kernel
theorem dX9_unlike_36 : decode cX9_unlike 36 = .ok (.istore_n 3, 1) := by decide +kernel
theorem dX9_unlike_37 : decode cX9_unlike 37 = .ok (.iload_n 3, 1) := by decide +kernel
theorem dX9_unlike_38 : decode cX9_unlike 38 = .ok (.aload_n 0, 1) := by decide +kernel
theorem dX9_unlike_39 : decode cX9_unlike 39 = .ok (.getfield 22, 3) := by decide +kernel
theorem dX9_unlike_42 : decode cX9_unlike 42 = .ok (.if_icmp .ge 18, 3) := by decide +kernel
theorem dX9_unlike_45 : decode cX9_unlike 45 = .ok (.iload_n 2, 1) := by decide +kernel
theorem dX9_unlike_46 : decode cX9_unlike 46 = .ok (.aload_n 0, 1) := by decide +kernel
theorem dX9_unlike_47 : decode cX9_unlike 47 = .ok (.iload_n 3, 1) := by decide +kernel
theorem dX9_unlike_48 : decode cX9_unlike 48 = .ok (.iload_n 1, 1) := by decide +kernel
theorem dX9_unlike_49 : decode cX9_unlike 49 = .ok (.invokevirtual 247, 3) := by decide +kernel
theorem dX9_unlike_52 : decode cX9_unlike 52 = .ok (.iadd, 1) := by decide +kernel
theorem dX9_unlike_53 : decode cX9_unlike 53 = .ok (.istore_n 2, 1) := by decide +kernel
theorem dX9_unlike_54 : decode cX9_unlike 54 = .ok (.iinc 3 1, 3) := by decide +kernel
theorem dX9_unlike_57 : decode cX9_unlike 57 = .ok (.goto (-20), 3) := by decide +kernel
theorem dX9_unlike_60 : decode cX9_unlike 60 = .ok (.iload_n 2, 1) := by decide +kernel
theorem dX9_unlike_61 : decode cX9_unlike 61 = .ok (.ireturn, 1) := by decide +kernel
theorem dX9_value_0 : decode cX9_value 0 = .ok (.aload_n 0, 1) := by decide +kernel
theorem dX9_value_1 : decode cX9_value 1 = .ok (.iload_n 1, 1) := by decide +kernel
theorem dX9_value_2 : decode cX9_value 2 = .ok (.invokevirtual 130, 3) := by decide +kernel
theorem dX9_value_5 : decode cX9_value 5 = .ok (.aload_n 0, 1) := by decide +kernel
theorem dX9_value_6 : decode cX9_value 6 = .ok (.aload_n 0, 1) := by decide +kernel
theorem dX9_value_7 : decode cX9_value 7 = .ok (.getfield 31, 3) := by decide +kernel
theorem dX9_value_10 : decode cX9_value 10 = .ok (.iload_n 2, 1) := by decide +kernel
theorem dX9_value_11 : decode cX9_value 11 = .ok (.invokevirtual 209, 3) := by decide +kernel
theorem dX9_value_14 : decode cX9_value 14 = .ok (.aload_n 0, 1) := by decide +kernel
theorem dX9_value_15 : decode cX9_value 15 = .ok (.iload_n 1, 1) := by decide +kernel
theorem dX9_value_16 : decode cX9_value 16 = .ok (.invokevirtual 215, 3) := by decide +kernel
theorem dX9_value_19 : decode cX9_value 19 = .ok (.astore 4, 2) := by decide +kernel
theorem dX9_value_21 : decode cX9_value 21 = .ok (.aload 4, 2) := by decide +kernel
theorem dX9_value_23 : decode cX9_value 23 = .ok (.invokevirtual 219, 3) := by decide +kernel
theorem dX9_value_26 : decode cX9_value 26 = .ok (.ifCond .eq 17, 3) := by decide +kernel
theorem dX9_value_29 : decode cX9_value 29 = .ok (.aload_n 0, 1) := by decide +kernel
theorem dX9_value_30 : decode cX9_value 30 = .ok (.getfield 31, 3) := by decide +kernel
theorem dX9_value_33 : decode cX9_value 33 = .ok (.iload_n 2, 1) := by decide +kernel
theorem dX9_value_34 : decode cX9_value 34 = .ok (.invokevirtual 238, 3) := by decide +kernel
theorem dX9_value_37 : decode cX9_value 37 = .ok (.sipush 512, 3) := by decide +kernel
theorem dX9_value_40 : decode cX9_value 40 = .ok (.if_icmp .eq 5, 3) := by decide +kernel
theorem dX9_value_43 : decode cX9_value 43 = .ok (.iconst (-1), 1) := by decide +kernel
theorem dX9_value_44 : decode cX9_value 44 = .ok (.ireturn, 1) := by decide +kernel
theorem dX9_value_45 : decode cX9_value 45 = .ok (.iconst 0, 1) := by decide +kernel
theorem dX9_value_46 : decode cX9_value 46 = .ok (.istore 5, 2) := by decide +kernel
theorem dX9_value_48 : decode cX9_value 48 = .ok (.iconst 0, 1) := by decide +kernel
theorem dX9_value_49 : decode cX9_value 49 = .ok (.istore 6, 2) := by decide +kernel
theorem dX9_value_51 : decode cX9_value 51 = .ok (.iload 6, 2) := by decide +kernel
theorem dX9_value_53 : decode cX9_value 53 = .ok (.aload_n 0, 1) := by decide +kernel
theorem dX9_value_54 : decode cX9_value 54 = .ok (.getfield 18, 3) := by decide +kernel
theorem dX9_value_57 : decode cX9_value 57 = .ok (.iload_n 1, 1) := by decide +kernel
theorem dX9_value_58 : decode cX9_value 58 = .ok (.aaload, 1) := by decide +kernel
theorem dX9_value_59 : decode cX9_value 59 = .ok (.getfield 180, 3) := by decide +kernel
theorem dX9_value_62 : decode cX9_value 62 = .ok (.if_icmp .ge 43, 3) := by decide +kernel
theorem dX9_value_65 : decode cX9_value 65 = .ok (.aload 4, 2) := by decide +kernel
theorem dX9_value_67 : decode cX9_value 67 = .ok (.getfield 244, 3) := by decide +kernel
theorem dX9_value_70 : decode cX9_value 70 = .ok (.iload 6, 2) := by decide +kernel
theorem dX9_value_72 : decode cX9_value 72 = .ok (.iaload, 1) := by decide +kernel
theorem dX9_value_73 : decode cX9_value 73 = .ok (.iload_n 2, 1) := by decide +kernel
theorem dX9_value_74 : decode cX9_value 74 = .ok (.if_icmp .ne 25, 3) := by decide +kernel
theorem dX9_value_77 : decode cX9_value 77 = .ok (.iload 5, 2) := by decide +kernel
theorem dX9_value_79 : decode cX9_value 79 = .ok (.iload_n 3, 1) := by decide +kernel
theorem dX9_value_80 : decode cX9_value 80 = .ok (.if_icmp .ne 16, 3) := by decide +kernel
theorem dX9_value_83 : decode cX9_value 83 = .ok (.aload_n 0, 1) := by decide +kernel
theorem dX9_value_84 : decode cX9_value 84 = .ok (.getfield 18, 3) := by decide +kernel
theorem dX9_value_87 : decode cX9_value 87 = .ok (.iload_n 1, 1) := by decide +kernel
theorem dX9_value_88 : decode cX9_value 88 = .ok (.aaload, 1) := by decide +kernel
theorem dX9_value_89 : decode cX9_value 89 = .ok (.getfield 191, 3) := by decide +kernel
theorem dX9_value_92 : decode cX9_value 92 = .ok (.iload 6, 2) := by decide +kernel
theorem dX9_value_94 : decode cX9_value 94 = .ok (.iaload, 1) := by decide +kernel
theorem dX9_value_95 : decode cX9_value 95 = .ok (.ireturn, 1) := by decide +kernel
theorem dX9_value_96 : decode cX9_value 96 = .ok (.iinc 5 1, 3) := by decide +kernel
theorem dX9_value_99 : decode cX9_value 99 = .ok (.iinc 6 1, 3) := by decide +kernel
theorem dX9_value_102 : decode cX9_value 102 = .ok (.goto (-51), 3) := by decide +kernel
theorem dX9_value_105 : decode cX9_value 105 = .ok (.iconst (-1), 1) := by decide +kernel
theorem dX9_value_106 : decode cX9_value 106 = .ok (.ireturn, 1) := by decide +kernel
/-! public methods: page, and those that go through tokens -/
theorem CI_pg {T T2 : List Tk} {μ u : va_M} (h : CI0 T μ) (a : tabC u T2 ∧ tpB u ∧ (0 ≤ u 1 1 ∧ u 1 1 ≤ 400) ∧ 0 ≤ u 0 2 ∧ u 0 2 ≤ 8) (f2 : lvOK u) (hf : ∀ x y, ((6 ≤ x ∧ x < 38) ∨ (45 ≤ x ∧ x < 110)) → u x y = μ x y) : CI0 T2 u := by
  obtain ⟨_, _, a6, a7, a8, a9, a10⟩ := h
  exact ⟨a, f2, rG_fr a6 (fun x y q1 q2 => hf _ _ (by (first | ((try clear y); (try clear a10); (try clear a9); (try clear a8); (try clear a7); (try clear a6); (try clear hf); omega) | omega))), rG_fr a7 (fun x y q1 q2 => hf _ _ (by (first | ((try clear y); (try clear a10); (try clear a9); (try clear a8); (try clear a7); (try clear a6); (try clear hf); omega) | omega))), pst_fr2 a8 (fun x y q1 q2 => hf _ _ (by (first | ((try clear y); (try clear a10); (try clear a9); (try clear a8); (try clear a7); (try clear a6); (try clear hf); omega) | omega))), aB_fr a9 (fun x y q => hf _ _ (by (first | ((try clear y); (try clear a10); (try clear a9); (try clear a8); (try clear a7); (try clear a6); (try clear hf); omega) | omega))), ord_fr a10 (fun x y q1 q2 => hf _ _ (by (first | ((try clear y); (try clear a10); (try clear a9); (try clear a8); (try clear a7); (try clear a6); (try clear hf); omega) | omega)))⟩
theorem key_b {T : List Tk} {μ : va_M} (h : CI T μ) (k : Int) (h0 : 0 ≤ k) (h1 : k < μ 1 3) : k < 200 ∧ 0 ≤ μ 3 k.toNat ∧ μ 3 k.toNat ≤ 2000000000 := by
  obtain ⟨e, e1, e2, e3, e4⟩ := tabC_in h.1.1.1 (k := k.toNat) (by (first | ((try clear e4); (try clear e3); (try clear e2); (try clear e1); omega) | omega))
  have := h.1.1.1.1
  (first | ((try clear e1); omega) | omega)
theorem CI_sn {T : List Tk} {μ u : va_M} (h : CI T μ) (hf : fr (fun x _ => x = 111) μ u) (hs : ∀ j, inR (u 111 j)) : CI T u := ⟨CI_z h.1 (fr_mono hf (fun x y q => by unfold Zc; (first | ((try clear hf); omega) | omega))), fun x y q n => by
  by_cases e : x = 111
  · rw [e]; exact hs y
  · rw [hf _ _ e]; exact h.2 x y q n⟩
set_option maxHeartbeats 4000000 in
set_option maxRecDepth 100000 in
theorem LX5_lettersOf_11 {p : Program} {l : Launch} {e : Env} {R : Room} {s : State} {m : MethodId} {args : Array Value} {below : List Frame} {meth : Method} {c : Code} {cells slots : Nat} {Q : State → Prop} {dC : Nat → ClassId} {dI : Nat → Nat → Nat} {h0 : Nat} {cI cZ cII cIII : ClassId} (hx : p.tables.exec = Jvm.exec) (hb : c.code = cX5_lettersOf) (hml : c.maxLocals = 4) (hown : s.vm.findClass RX5 = some m.cls) (hts : ∀ w ∈ wsG, w.before args s = true) (hK : va_K (dC, dI) vwCl (sT cI cZ cII cIII) s) (hM : xM s) (hRf : 1 ≤ R.frames) (hRl : 14 ≤ R.locals) (hRc : cells ≤ R.cells) (hRs : slots ≤ R.slots) (μ0 : va_M) (hexit32 : ∀ (le : Int) (nm : Int) (μ : va_M) (H : Heap) (locs : List Loc) (ls : Array Slot), (μ = μ0) → (0 ≤ le ∧ le ≤ 6) → va_P (dC, dI) vwCl (fw (sE cI cZ cII cIII h0) h0 233 μ) H → va_S (fA h0 233 s.heap.size) s.heap H locs → lv_has ls 4 [(2, .int (iZ (le)))] → W p l e R s m args below meth c H locs cells slots Q (F0 m 32 ls [])) :
    ∀ (n9 : Nat) (le : Int) (nm : Int) (μ : va_M) (H : Heap) (locs : List Loc) (ls : Array Slot), (μ = μ0) → (0 ≤ le ∧ le ≤ 6 ∧ 0 ≤ nm ∧ nm ≤ 2000000000) → (7 - le).toNat < n9 → va_P (dC, dI) vwCl (fw (sE cI cZ cII cIII h0) h0 233 μ) H → va_S (fA h0 233 s.heap.size) s.heap H locs → lv_has ls 4 [(2, .int (iZ (le))), (3, .int (iZ (nm)))] → W p l e R s m args below meth c H locs cells slots Q (F0 m 11 ls []) := by
  intro n9
  induction n9 with
  | zero => intro le nm μ H locs ls hm9_ hi hm9 hP hS hl; exact absurd hm9 (Nat.not_lt_zero _)
  | succ n9 ih =>
    intro le nm μ H locs ls hm9_ hi hm9 hP hS hl
    subst hm9_
    refine lv_iload_n hx hb dX5_lettersOf_11 rfl (lv_at hl 0 rfl) ?_
    refine lv_bipush (v := iZ 6) hx hb dX5_lettersOf_12 rfl ?_
    refine fz_icmp_ge (tgt := 32) (by constructor <;> (first | ((try clear hm9); (try clear hm9_); (try clear hexit32); (try clear hRs); (try clear hRc); (try clear hRl); (try clear hRf); omega) | omega)) (by decide) hx hb dX5_lettersOf_14 (by decide) (fun c14_ => ?_) (fun c14_ => ?_)
    · exact hexit32 (le) (nm) μ H locs ls (by rfl) (by (first | ((try clear hm9); (try clear hm9_); (try clear hexit32); (try clear hRs); (try clear hRc); (try clear hRl); (try clear hRf); omega) | omega)) hP hS (lv_sub hl [0] rfl)
    · refine lv_iload_n hx hb dX5_lettersOf_17 rfl (lv_at hl 1 rfl) ?_
      refine fz_if_le (tgt := 32) (by constructor <;> (first | ((try clear c14_); (try clear hm9); (try clear hm9_); (try clear hexit32); (try clear hRs); (try clear hRc); (try clear hRl); (try clear hRf); omega) | omega)) hx hb dX5_lettersOf_18 (by decide) (fun c18_ => ?_) (fun c18_ => ?_)
      · exact hexit32 (le) (nm) μ H locs ls (by rfl) (by (first | ((try clear c18_); (try clear hm9); (try clear hm9_); (try clear hexit32); (try clear hRs); (try clear hRc); (try clear hRl); (try clear hRf); omega) | omega)) hP hS (lv_sub hl [0] rfl)
      · refine lv_iload_n hx hb dX5_lettersOf_21 rfl (lv_at hl 1 rfl) ?_
        refine lv_bipush (v := iZ 27) hx hb dX5_lettersOf_22 rfl ?_
        refine lv_idiv hx hb dX5_lettersOf_24 (by decide +kernel) ?_
        refine lv_topi (fun x9 ex9 => ?_)
        obtain rfl : x9 = iZ (nm / 27) := ex9.trans (iZ_divP (by constructor <;> (first | ((try clear ex9); (try clear c14_); (try clear hm9); (try clear hm9_); (try clear hexit32); (try clear hRs); (try clear hRc); (try clear hRl); (try clear hRf); omega) | omega)) (by decide) (by (first | ((try clear ex9); (try clear c14_); (try clear hm9); (try clear hm9_); (try clear hexit32); (try clear hRs); (try clear hRc); (try clear hRl); (try clear hRf); omega) | omega)) (by (first | ((try clear ex9); (try clear c18_); (try clear c14_); (try clear hm9); (try clear hi); (try clear hm9_); (try clear hexit32); (try clear hRs); (try clear hRc); (try clear hRl); (try clear hRf); omega) | omega)))
        refine lv_istore_n (lv' := [(3, .int (iZ (nm / 27))), (2, .int (iZ (le)))]) hx hb dX5_lettersOf_25 rfl hl (by decide) rfl (fun ls hl => ?_)
        refine lv_iinc (v := iZ (le + 1)) (lv' := [(2, .int (iZ (le + 1))), (3, .int (iZ (nm / 27)))]) hx hb dX5_lettersOf_26 hl (k := 1) rfl (iZ_add _ _) (by decide) rfl (fun ls hl => ?_)
        refine lv_goto (tgt := 11) hx hb dX5_lettersOf_29 (by decide) ?_
        exact ih (le + 1) (nm / 27) μ H locs ls (by rfl) (by (first | ((try clear ex9); (try clear hm9); (try clear hm9_); (try clear hexit32); (try clear hRs); (try clear hRc); (try clear hRl); (try clear hRf); omega) | omega)) (by (first | ((try clear ex9); (try clear c18_); (try clear hm9_); (try clear hexit32); (try clear hRs); (try clear hRc); (try clear hRl); (try clear hRf); omega) | omega)) hP hS (lv_sub hl [0, 1] rfl)
set_option maxHeartbeats 4000000 in
set_option maxRecDepth 100000 in
theorem s_XlettersOf (l : Launch) (dC : Nat → ClassId) (dI : Nat → Nat → Nat) (cI cZ cII cIII : ClassId) (h0 sz : Nat) (μ : va_M) (tk : Int) (h_t : 0 ≤ tk ∧ tk < 200) (hk9 : 0 ≤ μ 3 tk.toNat ∧ μ 3 tk.toNat ≤ 2000000000) : Met l yX5_lettersOf (Cond.code yX5_lettersOf cX5_lettersOf 4 (some .int) :: wsG) ({ frames := 1, cells := 0, slots := 0, locals := 14 } : Room) (va_Pc [.ref (h0 + 1), .int (iZ (tk))] (fun U => U.heap.size = sz ∧ va_P (dC, dI) vwCl (fw (sE cI cZ cII cIII h0) h0 233 μ) U.heap ∧ va_K (dC, dI) vwCl (sT cI cZ cII cIII) U ∧ xM U)) (va_Qi (fun (r9 : Int32) (u : va_M × Int) => r9 = iZ u.2 ∧ (fun (u : va_M) (r : Int) => u = μ ∧ 0 ≤ r ∧ r ≤ 6) u.1 u.2) (fun u t => va_P (dC, dI) vwCl (fw (sE cI cZ cII cIII h0) h0 233 u.1) t.heap ∧ va_K (dC, dI) vwCl (sT cI cZ cII cIII) t) (fA h0 233 sz)) 0 0 (fA h0 233 sz) := by
  refine Met.ofW (cc := cX5_lettersOf) (maxL := 4) (ret := (some .int)) (by decide) rfl ?_
  intro p e s m args below meth c s₁ B hml hv
  obtain ⟨rfl, hsz, hP, hK, hM⟩ := hv
  have hx := B.exec
  have hb := B.bytes
  have hr := B.returns
  have hts : ∀ w ∈ wsG, w.before _ s = true := hG_of (atoms_spec (ws := (Cond.code yX5_lettersOf cX5_lettersOf 4 (some .int) :: wsG)) B.pre)
  have hown : s.vm.findClass RX5 = some m.cls := findClass_of_methodNamed B.named
  have hlocks := B.notSynchronized
  subst hsz
  have hS : va_S (fA h0 233 s.heap.size) s.heap s.heap [] := va_S.rf
  have hl := lv_entry ([.ref (h0 + 1), .int (iZ (tk))]) (n := 4) (Nat.le_of_ble_eq_true rfl)
  rw [lg_entry_eq]
  generalize (lg_sl ([.ref (h0 + 1), .int (iZ (tk))]) ++ List.replicate (4 - (lg_sl ([.ref (h0 + 1), .int (iZ (tk))])).length) Slot.unset).toArray = ls at hl ⊢
  have hl : lv_has ls 4 [(0, .ref (h0 + 1)), (1, .int (iZ (tk)))] := hl
  refine lv_iconst (v := iZ 0) hx hb dX5_lettersOf_0 rfl ?_
  refine lv_istore_n (lv' := [(2, .int (iZ (0))), (0, .ref (h0 + 1)), (1, .int (iZ (tk)))]) hx hb dX5_lettersOf_1 rfl hl (by decide) rfl (fun ls hl => ?_)
  refine lv_aload_n hx hb dX5_lettersOf_2 rfl (lv_at hl 1 rfl) ?_
  refine fz_get (D := (dC, dI)) (ci := 5) (v := .ref (h0 + 3)) (C := RX5) (T := TX5) (N := 8) hx hb hts inG5 hown hK hP (k := 1) (by decide) (F := (sF1 h0)) sE_1 rfl 2 (by decide) (hts _ k38) (fun _ h9 => h9) rfl dX5_lettersOf_3 ?_
  refine lv_iload_n hx hb dX5_lettersOf_6 rfl (lv_at hl 2 rfl) ?_
  refine fz_ld (k := 3) (n := 200) hx hb hK hP 0 (by decide) sE_3 rfl ⟨by (first | ((try clear hsz); (try clear s₁); omega) | omega), by (first | ((try clear hsz); (try clear s₁); omega) | omega)⟩ (by decide) dX5_lettersOf_7 ?_
  refine lv_iconst (v := iZ 3) hx hb dX5_lettersOf_8 rfl ?_
  refine lv_idiv hx hb dX5_lettersOf_9 (by decide +kernel) ?_
  refine lv_topi (fun x9 ex9 => ?_)
  obtain rfl : x9 = iZ ((μ 3 (tk).toNat) / 3) := ex9.trans (iZ_divP (by constructor <;> (first | ((try clear ex9); (try clear hsz); (try clear s₁); (try clear h_t); omega) | omega)) (by decide) (by (first | ((try clear ex9); (try clear hsz); (try clear s₁); (try clear h_t); omega) | omega)) (by (first | ((try clear ex9); (try clear hsz); (try clear s₁); (try clear h_t); omega) | omega)))
  refine lv_istore_n (lv' := [(3, .int (iZ ((μ 3 (tk).toNat) / 3))), (2, .int (iZ (0))), (0, .ref (h0 + 1)), (1, .int (iZ (tk)))]) hx hb dX5_lettersOf_10 rfl hl (by decide) rfl (fun ls hl => ?_)
  refine LX5_lettersOf_11 hx hb hml hown hts hK hM (Nat.le_of_ble_eq_true rfl) (Nat.le_of_ble_eq_true rfl) (Nat.le_of_ble_eq_true rfl) (Nat.le_of_ble_eq_true rfl) (μ)  ?_ _ (0) ((μ 3 (tk).toNat) / 3) μ s.heap [] ls (by rfl) (by (first | ((try clear ex9); (try clear hsz); (try clear s₁); (try clear h_t); omega) | omega)) (Nat.lt_succ_self _) hP hS (lv_sub hl [1, 0] rfl)
  · intro le_1 nm_1 μ1_ H locs ls q1_1 q2_1 hP hS hl
    have hl : lv_has ls 4 [(2, .int (iZ (le_1)))] := hl
    have hPn32 := hP
    have hln32 := hl
    obtain rfl := q1_1
    have hP := hPn32
    have hl := hln32
    refine lv_iload_n hx hb dX5_lettersOf_32 rfl (lv_at hl 0 rfl) ?_
    exact W.iret (v := iZ (le_1)) hx hb hr (fun t9 ht9 hW9 => ⟨⟨iZ (le_1), (μ1_, le_1), rfl, ⟨rfl, (by
                dsimp only
                exact ⟨rfl, q2_1⟩)⟩, by rw [ht9]; exact hP, va_K.moved hW9.alike hK⟩, hS.F ht9⟩) hS.2.2 dX5_lettersOf_33
set_option maxHeartbeats 4000000 in
set_option maxRecDepth 100000 in
theorem LX5_letterOf_23 {p : Program} {l : Launch} {e : Env} {R : Room} {s : State} {m : MethodId} {args : Array Value} {below : List Frame} {meth : Method} {c : Code} {cells slots : Nat} {Q : State → Prop} {dC : Nat → ClassId} {dI : Nat → Nat → Nat} {h0 : Nat} {cI cZ cII cIII : ClassId} (hx : p.tables.exec = Jvm.exec) (hb : c.code = cX5_letterOf) (hml : c.maxLocals = 6) (hown : s.vm.findClass RX5 = some m.cls) (hts : ∀ w ∈ wsG, w.before args s = true) (hK : va_K (dC, dI) vwCl (sT cI cZ cII cIII) s) (hM : xM s) (hRf : 2 ≤ R.frames) (hRl : 37 ≤ R.locals) (hRc : cells ≤ R.cells) (hRs : slots ≤ R.slots) (μ0 : va_M) (bh : Int) (hbh : -6 ≤ bh ∧ bh ≤ 5) (hexit41 : ∀ (i : Int) (nm : Int) (μ : va_M) (H : Heap) (locs : List Loc) (ls : Array Slot), (μ = μ0) → (0 ≤ nm ∧ nm ≤ 2000000000) → va_P (dC, dI) vwCl (fw (sE cI cZ cII cIII h0) h0 233 μ) H → va_S (fA h0 233 s.heap.size) s.heap H locs → lv_has ls 6 [(3, .int (iZ (nm))), (4, .int (iZ (bh)))] → W p l e R s m args below meth c H locs cells slots Q (F0 m 41 ls [])) :
    ∀ (n9 : Nat) (i : Int) (nm : Int) (μ : va_M) (H : Heap) (locs : List Loc) (ls : Array Slot), (μ = μ0) → (0 ≤ i ∧ i ≤ 6 ∧ 0 ≤ nm ∧ nm ≤ 2000000000) → (7 - i).toNat < n9 → va_P (dC, dI) vwCl (fw (sE cI cZ cII cIII h0) h0 233 μ) H → va_S (fA h0 233 s.heap.size) s.heap H locs → lv_has ls 6 [(5, .int (iZ (i))), (3, .int (iZ (nm))), (4, .int (iZ (bh)))] → W p l e R s m args below meth c H locs cells slots Q (F0 m 23 ls []) := by
  intro n9
  induction n9 with
  | zero => intro i nm μ H locs ls hm9_ hi hm9 hP hS hl; exact absurd hm9 (Nat.not_lt_zero _)
  | succ n9 ih =>
    intro i nm μ H locs ls hm9_ hi hm9 hP hS hl
    subst hm9_
    refine lv_iload hx hb dX5_letterOf_23 (lv_at hl 0 rfl) ?_
    refine lv_iload hx hb dX5_letterOf_25 (lv_at hl 2 rfl) ?_
    refine fz_icmp_ge (tgt := 41) (by constructor <;> (first | ((try clear hm9); (try clear hm9_); (try clear hexit41); (try clear hbh); (try clear hRs); (try clear hRc); (try clear hRl); (try clear hRf); omega) | omega)) (by constructor <;> (first | ((try clear hm9); (try clear hi); (try clear hm9_); (try clear hexit41); (try clear hRs); (try clear hRc); (try clear hRl); (try clear hRf); omega) | omega)) hx hb dX5_letterOf_27 (by decide) (fun c27_ => ?_) (fun c27_ => ?_)
    · exact hexit41 (i) (nm) μ H locs ls (by rfl) (by (first | ((try clear c27_); (try clear hm9); (try clear hm9_); (try clear hexit41); (try clear hbh); (try clear hRs); (try clear hRc); (try clear hRl); (try clear hRf); omega) | omega)) hP hS (lv_sub hl [1, 2] rfl)
    · refine lv_iload_n hx hb dX5_letterOf_30 rfl (lv_at hl 1 rfl) ?_
      refine lv_bipush (v := iZ 27) hx hb dX5_letterOf_31 rfl ?_
      refine lv_idiv hx hb dX5_letterOf_33 (by decide +kernel) ?_
      refine lv_topi (fun x9 ex9 => ?_)
      obtain rfl : x9 = iZ (nm / 27) := ex9.trans (iZ_divP (by constructor <;> (first | ((try clear ex9); (try clear c27_); (try clear hm9); (try clear hm9_); (try clear hexit41); (try clear hbh); (try clear hRs); (try clear hRc); (try clear hRl); (try clear hRf); omega) | omega)) (by decide) (by (first | ((try clear ex9); (try clear c27_); (try clear hm9); (try clear hm9_); (try clear hexit41); (try clear hbh); (try clear hRs); (try clear hRc); (try clear hRl); (try clear hRf); omega) | omega)) (by (first | ((try clear ex9); (try clear c27_); (try clear hm9); (try clear hi); (try clear hm9_); (try clear hexit41); (try clear hbh); (try clear hRs); (try clear hRc); (try clear hRl); (try clear hRf); omega) | omega)))
      refine lv_istore_n (lv' := [(3, .int (iZ (nm / 27))), (5, .int (iZ (i))), (4, .int (iZ (bh)))]) hx hb dX5_letterOf_34 rfl hl (by decide) rfl (fun ls hl => ?_)
      refine lv_iinc (v := iZ (i + 1)) (lv' := [(5, .int (iZ (i + 1))), (3, .int (iZ (nm / 27))), (4, .int (iZ (bh)))]) hx hb dX5_letterOf_35 hl (k := 1) rfl (iZ_add _ _) (by decide) rfl (fun ls hl => ?_)
      refine lv_goto (tgt := 23) hx hb dX5_letterOf_38 (by decide) ?_
      exact ih (i + 1) (nm / 27) μ H locs ls (by rfl) (by (first | ((try clear ex9); (try clear hm9); (try clear hm9_); (try clear hexit41); (try clear hRs); (try clear hRc); (try clear hRl); (try clear hRf); omega) | omega)) (by (first | ((try clear ex9); (try clear hm9_); (try clear hexit41); (try clear hRs); (try clear hRc); (try clear hRl); (try clear hRf); omega) | omega)) hP hS (lv_sub hl [0, 1, 2] rfl)
set_option maxHeartbeats 4000000 in
set_option maxRecDepth 100000 in
theorem s_XletterOf (l : Launch) (dC : Nat → ClassId) (dI : Nat → Nat → Nat) (cI cZ cII cIII : ClassId) (h0 sz : Nat) (μ : va_M) (tk : Int) (kk : Int) (h_t : 0 ≤ tk ∧ tk < 200) (hk9 : 0 ≤ μ 3 tk.toNat ∧ μ 3 tk.toNat ≤ 2000000000) (hkk : 0 ≤ kk ∧ kk ≤ 5) : Met l yX5_letterOf (Cond.code yX5_letterOf cX5_letterOf 6 (some .int) :: wsG) ({ frames := 2, cells := 0, slots := 0, locals := 37 } : Room) (va_Pc [.ref (h0 + 1), .int (iZ (tk)), .int (iZ (kk))] (fun U => U.heap.size = sz ∧ va_P (dC, dI) vwCl (fw (sE cI cZ cII cIII h0) h0 233 μ) U.heap ∧ va_K (dC, dI) vwCl (sT cI cZ cII cIII) U ∧ xM U)) (va_Qi (fun (r9 : Int32) (u : va_M × Int) => r9 = iZ u.2 ∧ (fun (u : va_M) (r : Int) => u = μ) u.1 u.2) (fun u t => va_P (dC, dI) vwCl (fw (sE cI cZ cII cIII h0) h0 233 u.1) t.heap ∧ va_K (dC, dI) vwCl (sT cI cZ cII cIII) t) (fA h0 233 sz)) 0 0 (fA h0 233 sz) := by
  refine Met.ofW (cc := cX5_letterOf) (maxL := 6) (ret := (some .int)) (by decide) rfl ?_
  intro p e s m args below meth c s₁ B hml hv
  obtain ⟨rfl, hsz, hP, hK, hM⟩ := hv
  have hx := B.exec
  have hb := B.bytes
  have hr := B.returns
  have hts : ∀ w ∈ wsG, w.before _ s = true := hG_of (atoms_spec (ws := (Cond.code yX5_letterOf cX5_letterOf 6 (some .int) :: wsG)) B.pre)
  have hown : s.vm.findClass RX5 = some m.cls := findClass_of_methodNamed B.named
  have hlocks := B.notSynchronized
  subst hsz
  have hS : va_S (fA h0 233 s.heap.size) s.heap s.heap [] := va_S.rf
  have hl := lv_entry ([.ref (h0 + 1), .int (iZ (tk)), .int (iZ (kk))]) (n := 6) (Nat.le_of_ble_eq_true rfl)
  rw [lg_entry_eq]
  generalize (lg_sl ([.ref (h0 + 1), .int (iZ (tk)), .int (iZ (kk))]) ++ List.replicate (6 - (lg_sl ([.ref (h0 + 1), .int (iZ (tk)), .int (iZ (kk))])).length) Slot.unset).toArray = ls at hl ⊢
  have hl : lv_has ls 6 [(0, .ref (h0 + 1)), (1, .int (iZ (tk))), (2, .int (iZ (kk)))] := hl
  refine lv_aload_n hx hb dX5_letterOf_0 rfl (lv_at hl 0 rfl) ?_
  refine fz_get (D := (dC, dI)) (ci := 5) (v := .ref (h0 + 3)) (C := RX5) (T := TX5) (N := 8) hx hb hts inG5 hown hK hP (k := 1) (by decide) (F := (sF1 h0)) sE_1 rfl 2 (by decide) (hts _ k38) (fun _ h9 => h9) rfl dX5_letterOf_1 ?_
  refine lv_iload_n hx hb dX5_letterOf_4 rfl (lv_at hl 1 rfl) ?_
  refine fz_ld (k := 3) (n := 200) hx hb hK hP 0 (by decide) sE_3 rfl ⟨by (first | ((try clear hsz); (try clear s₁); (try clear hkk); omega) | omega), by (first | ((try clear hsz); (try clear s₁); (try clear hkk); omega) | omega)⟩ (by decide) dX5_letterOf_5 ?_
  refine lv_iconst (v := iZ 3) hx hb dX5_letterOf_6 rfl ?_
  refine lv_idiv hx hb dX5_letterOf_7 (by decide +kernel) ?_
  refine lv_topi (fun x9 ex9 => ?_)
  obtain rfl : x9 = iZ ((μ 3 (tk).toNat) / 3) := ex9.trans (iZ_divP (by constructor <;> (first | ((try clear ex9); (try clear hsz); (try clear s₁); (try clear hkk); (try clear h_t); omega) | omega)) (by decide) (by (first | ((try clear ex9); (try clear hsz); (try clear s₁); (try clear hkk); (try clear h_t); omega) | omega)) (by (first | ((try clear ex9); (try clear hsz); (try clear s₁); (try clear hkk); (try clear h_t); omega) | omega)))
  refine lv_istore_n (lv' := [(3, .int (iZ ((μ 3 (tk).toNat) / 3))), (0, .ref (h0 + 1)), (1, .int (iZ (tk))), (2, .int (iZ (kk)))]) hx hb dX5_letterOf_8 rfl hl (by decide) rfl (fun ls hl => ?_)
  refine lv_aload_n hx hb dX5_letterOf_9 rfl (lv_at hl 1 rfl) ?_
  refine lv_iload_n hx hb dX5_letterOf_10 rfl (lv_at hl 2 rfl) ?_
  refine va_calli (va_runV (As := [.int (iZ (tk))]) (rest := []) ⟨hx, hb, hml, hown, hts⟩ (s_XlettersOf l dC dI cI cZ cII cIII h0 s.heap.size μ (tk) (by first | assumption | omega | exact ⟨by omega, by omega⟩) (by exact hk9)) (cwV 1 hts (gV_G k906 k891 k892 k2 k893) rfl rfl rfl (by decide +kernel) ⟨Nat.le_of_ble_eq_true rfl, Nat.le_of_ble_eq_true rfl⟩) ⟨fun a U g mk q => by obtain ⟨q0, q1, qP, qK, qM⟩ := q; exact ⟨q0, q1, qP, va_K.moved (u := U) (U := U.calling g mk a) (Vm.Alike.refl U.vm) qK, qM⟩, va_recv hK hP (ci := 5) (q0 := 1) rfl ((fw_get (by decide)).trans (by rw [sE_1])), fun U hU hW => ⟨rfl, by rw [hU], by rw [hU]; exact hP, va_K.moved hW.alike hK, xM_warm hW hM⟩⟩ rfl rfl hl.1 rfl (lv_room (Nat.le_of_ble_eq_true rfl)) dX5_letterOf_11 ⟨Nat.le_of_ble_eq_true rfl, Nat.le_of_ble_eq_true rfl⟩) hS (fun q _ h => fA_le hS.1 q h) (fA_le hS.1) (fun r9 u9 t9 H1 locs ht9 hvm9 hw9 hB9 hz9 hk9 hS => ?_)
  obtain ⟨μl, rl⟩ := u9
  obtain ⟨hP, -⟩ := hB9
  rw [ht9] at hP
  generalize H1 = H at hP hS ⊢
  obtain ⟨e9, hw9⟩ := hw9
  have e9 : r9 = iZ rl := e9
  subst e9
  simp only at hP hw9
  have hμl := hw9; clear hw9
  rw [hμl.1] at hP; have hμl := hμl.2
  have hrl := hμl
  refine lv_iconst (v := iZ 1) hx hb dX5_letterOf_14 rfl ?_
  refine lv_isub hx hb dX5_letterOf_15 ?_
  refine lv_topi (fun x9 ex9 => ?_)
  obtain rfl : x9 = iZ (rl - 1) := ex9.trans (iZ_sub _ _)
  refine lv_iload_n hx hb dX5_letterOf_16 rfl (lv_at hl 3 rfl) ?_
  refine lv_isub hx hb dX5_letterOf_17 ?_
  refine lv_topi (fun x9 ex9 => ?_)
  obtain rfl : x9 = iZ ((rl - 1) - kk) := ex9.trans (iZ_sub _ _)
  refine lv_istore (lv' := [(4, .int (iZ ((rl - 1) - kk))), (3, .int (iZ ((μ 3 (tk).toNat) / 3))), (0, .ref (h0 + 1)), (1, .int (iZ (tk))), (2, .int (iZ (kk)))]) hx hb dX5_letterOf_18 hl (by decide) rfl (fun ls hl => ?_)
  refine lv_iconst (v := iZ 0) hx hb dX5_letterOf_20 rfl ?_
  refine lv_istore (lv' := [(5, .int (iZ (0))), (4, .int (iZ ((rl - 1) - kk))), (3, .int (iZ ((μ 3 (tk).toNat) / 3))), (0, .ref (h0 + 1)), (1, .int (iZ (tk))), (2, .int (iZ (kk)))]) hx hb dX5_letterOf_21 hl (by decide) rfl (fun ls hl => ?_)
  refine LX5_letterOf_23 hx hb hml hown hts hK hM (Nat.le_of_ble_eq_true rfl) (Nat.le_of_ble_eq_true rfl) (Nat.le_of_ble_eq_true rfl) (Nat.le_of_ble_eq_true rfl) (μ) (rl - 1 - kk) (by (first | ((try clear ex9); (try clear hrl); (try clear hμl); (try clear hz9); (try clear hsz); (try clear s₁); (try clear h_t); omega) | omega)) ?_ _ (0) ((μ 3 (tk).toNat) / 3) μ H locs ls (by rfl) (by (first | ((try clear ex9); (try clear hrl); (try clear hμl); (try clear μl); (try clear hz9); (try clear hsz); (try clear s₁); (try clear hkk); (try clear h_t); omega) | omega)) (Nat.lt_succ_self _) hP hS (lv_sub hl [0, 2, 1] rfl)
  · intro i_1 nm_1 μ1_ H locs ls q1_1 q2_1 hP hS hl
    have hl : lv_has ls 6 [(3, .int (iZ (nm_1))), (4, .int (iZ ((rl - 1 - kk))))] := hl
    have hPn41 := hP
    have hln41 := hl
    obtain rfl := q1_1
    have hP := hPn41
    have hl := hln41
    have Q2 := q2_1
    refine lv_iload hx hb dX5_letterOf_41 (lv_at hl 1 rfl) ?_
    refine fz_if_ge (tgt := 50) (by constructor <;> (first | ((try clear Q2); (try clear hln41); (try clear hPn41); (try clear q2_1); (try clear q1_1); (try clear i_1); (try clear ex9); (try clear hrl); (try clear hμl); (try clear μl); (try clear hz9); (try clear hsz); (try clear s₁); (try clear h_t); omega) | omega)) hx hb dX5_letterOf_43 (by decide) (fun c43_ => ?_) (fun c43_ => ?_)
    · refine lv_iload_n hx hb dX5_letterOf_50 rfl (lv_at hl 0 rfl) ?_
      refine lv_bipush (v := iZ 27) hx hb dX5_letterOf_51 rfl ?_
      refine lv_irem hx hb dX5_letterOf_53 (by decide +kernel) ?_
      refine lv_topi (fun x9 ex9 => ?_)
      obtain rfl : x9 = iZ (nm_1 % 27) := ex9.trans (iZ_remP (by constructor <;> (first | ((try clear ex9); (try clear c43_); (try clear Q2); (try clear hln41); (try clear hPn41); (try clear q1_1); (try clear i_1); (try clear hrl); (try clear hμl); (try clear μl); (try clear hz9); (try clear hsz); (try clear s₁); (try clear hkk); (try clear h_t); omega) | omega)) (by decide) (by (first | ((try clear ex9); (try clear c43_); (try clear Q2); (try clear hln41); (try clear hPn41); (try clear q1_1); (try clear i_1); (try clear hrl); (try clear hμl); (try clear μl); (try clear hz9); (try clear hsz); (try clear s₁); (try clear hkk); (try clear h_t); omega) | omega)) (by (first | ((try clear ex9); (try clear c43_); (try clear Q2); (try clear hln41); (try clear hPn41); (try clear q2_1); (try clear q1_1); (try clear i_1); (try clear hrl); (try clear hμl); (try clear μl); (try clear hz9); (try clear hsz); (try clear s₁); (try clear hkk); (try clear h_t); omega) | omega)))
      refine lv_iconst (v := iZ 1) hx hb dX5_letterOf_54 rfl ?_
      refine lv_isub hx hb dX5_letterOf_55 ?_
      refine lv_topi (fun x9 ex9 => ?_)
      obtain rfl : x9 = iZ ((nm_1 % 27) - 1) := ex9.trans (iZ_sub _ _)
      exact W.iret (v := iZ ((nm_1 % 27) - 1)) hx hb hr (fun t9 ht9 hW9 => ⟨⟨iZ ((nm_1 % 27) - 1), (μ1_, (nm_1 % 27) - 1), rfl, ⟨rfl, (by
                    dsimp only
                    all_goals exact rfl)⟩, by rw [ht9]; exact hP, va_K.moved hW9.alike hK⟩, hS.F ht9⟩) hS.2.2 dX5_letterOf_56
    · refine lv_iconst (v := iZ (-1)) hx hb dX5_letterOf_46 rfl ?_
      refine lv_goto (tgt := 56) hx hb dX5_letterOf_47 (by decide) ?_
      exact W.iret (v := iZ ((-1))) hx hb hr (fun t9 ht9 hW9 => ⟨⟨iZ ((-1)), (μ1_, (-1)), rfl, ⟨rfl, (by
                    dsimp only
                    all_goals exact rfl)⟩, by rw [ht9]; exact hP, va_K.moved hW9.alike hK⟩, hS.F ht9⟩) hS.2.2 dX5_letterOf_56
set_option maxHeartbeats 4000000 in
set_option maxRecDepth 100000 in
theorem LX9_seeWords_19 {p : Program} {l : Launch} {e : Env} {R : Room} {s : State} {m : MethodId} {args : Array Value} {below : List Frame} {meth : Method} {c : Code} {cells slots : Nat} {Q : State → Prop} {dC : Nat → ClassId} {dI : Nat → Nat → Nat} {h0 : Nat} {cI cZ cII cIII : ClassId} (hx : p.tables.exec = Jvm.exec) (hb : c.code = cX9_seeWords) (hml : c.maxLocals = 7) (hown : s.vm.findClass RX9 = some m.cls) (hts : ∀ w ∈ wsG, w.before args s = true) (hK : va_K (dC, dI) vwCl (sT cI cZ cII cIII) s) (hM : xM s) (hRf : 7 ≤ R.frames) (hRl : 163 ≤ R.locals) (hRc : cells ≤ R.cells) (hRs : slots ≤ R.slots) (μ0 : va_M) (T : List Tk) (pg : Int) (nd : Int) (hI : CI T μ0) (hpg : 0 ≤ pg ∧ pg < 8) (hnr : inR nd) (hexit85 : ∀ (i : Int) (fs : Int) (μ : va_M) (H : Heap) (locs : List Loc) (ls : Array Slot), (fr (fun x _ => x = 111) μ0 μ) → (∀ j, inR (μ 111 j)) → va_P (dC, dI) vwCl (fw (sE cI cZ cII cIII h0) h0 233 μ) H → va_S (fA h0 233 s.heap.size) s.heap H locs → lv_has ls 7 [(4, .int (iZ (fs)))] → W p l e R s m args below meth c H locs cells slots Q (F0 m 85 ls [])) :
    ∀ (n9 : Nat) (i : Int) (fs : Int) (μ : va_M) (H : Heap) (locs : List Loc) (ls : Array Slot), (0 ≤ i ∧ i ≤ 60) → (fr (fun x _ => x = 111) μ0 μ) → (∀ j, inR (μ 111 j)) → (61 - i).toNat < n9 → va_P (dC, dI) vwCl (fw (sE cI cZ cII cIII h0) h0 233 μ) H → va_S (fA h0 233 s.heap.size) s.heap H locs → lv_has ls 7 [(5, .int (iZ (i))), (4, .int (iZ (fs))), (3, .ref (h0 + ((113 + (pg).toNat * 15) + 10))), (2, .int (iZ (nd))), (1, .int (iZ (pg))), (0, .ref h0)] → W p l e R s m args below meth c H locs cells slots Q (F0 m 19 ls []) := by
  intro n9
  induction n9 with
  | zero => intro i fs μ H locs ls hi hf hsn hm9 hP hS hl; exact absurd hm9 (Nat.not_lt_zero _)
  | succ n9 ih =>
    intro i fs μ H locs ls hi hf hsn hm9 hP hS hl
    obtain ⟨hl1, hl2⟩ := CI_lf hI pg (by (first | ((try clear hl2); (try clear hl1); (try clear hm9); (try clear hsn); (try clear hf); (try clear hi); (try clear hexit85); (try clear hRs); (try clear hRc); (try clear hRl); (try clear hRf); omega) | omega)) (by (first | ((try clear hl2); (try clear hl1); (try clear hm9); (try clear hsn); (try clear hf); (try clear hi); (try clear hexit85); (try clear hRs); (try clear hRc); (try clear hRl); (try clear hRf); omega) | omega))
    have hn9 := hl1.1.1
    have x2 : μ (113 + (pg).toNat * 15) 2 = μ0 (113 + (pg).toNat * 15) 2 := hf _ _ (by (first | ((try clear x2); (try clear hn9); (try clear hl2); (try clear hl1); (try clear hm9); (try clear hsn); (try clear hf); (try clear hi); (try clear hexit85); (try clear hpg); (try clear hRs); (try clear hRc); (try clear hRl); (try clear hRf); omega) | omega))
    have ht : inR (μ (113 + (pg).toNat * 15 + 11) i.toNat) := by rw [hf _ _ (by (first | ((try clear x2); (try clear hn9); (try clear hl2); (try clear hl1); (try clear hm9); (try clear hsn); (try clear hf); (try clear hi); (try clear hexit85); (try clear hpg); (try clear hRs); (try clear hRc); (try clear hRl); (try clear hRf); omega) | omega))]; exact hI.2 _ _ (by unfold Zc; (first | ((try clear x2); (try clear hn9); (try clear hl2); (try clear hl1); (try clear hm9); (try clear hsn); (try clear hf); (try clear hi); (try clear hexit85); (try clear hpg); (try clear hRs); (try clear hRc); (try clear hRl); (try clear hRf); omega) | omega)) (by (first | ((try clear x2); (try clear hn9); (try clear hl2); (try clear hl1); (try clear hm9); (try clear hsn); (try clear hf); (try clear hi); (try clear hexit85); (try clear hpg); (try clear hRs); (try clear hRc); (try clear hRl); (try clear hRf); omega) | omega))
    have htk := hl1.2.1 i.toNat
    have xtk : μ (113 + (pg).toNat * 15 + 1) i.toNat = μ0 (113 + (pg).toNat * 15 + 1) i.toNat := hf _ _ (by (first | ((try clear xtk); (try clear htk); (try clear x2); (try clear hn9); (try clear hl2); (try clear hl1); (try clear hm9); (try clear hsn); (try clear hf); (try clear hi); (try clear hexit85); (try clear hpg); (try clear hRs); (try clear hRc); (try clear hRl); (try clear hRf); omega) | omega))
    have hsw := hsn (μ (113 + (pg).toNat * 15 + 1) i.toNat).toNat
    refine lv_iload hx hb dX9_seeWords_19 (lv_at hl 0 rfl) ?_
    refine lv_aload_n hx hb dX9_seeWords_21 rfl (lv_at hl 5 rfl) ?_
    refine fz_get (D := (dC, dI)) (ci := 9) (v := .ref (h0 + 5)) (C := RX9) (T := TX9) (N := 15) hx hb hts inG9 hown hK hP (k := 0) (by decide) (F := (sF0 h0)) sE_0 rfl 1 (by decide) (hts _ k333) (fun _ h9 => h9) rfl dX9_seeWords_22 ?_
    refine lv_iload_n hx hb dX9_seeWords_25 rfl (lv_at hl 4 rfl) ?_
    refine fz_ald (k := 5) (n := 8) (k2 := (113 + (pg).toNat * 15)) hx hb hK hP 1 rfl (by decide) sE_5 rfl ⟨by (first | ((try clear hsw); (try clear xtk); (try clear htk); (try clear x2); (try clear hn9); (try clear hl2); (try clear hl1); (try clear hm9); (try clear hsn); (try clear hf); (try clear hi); (try clear hexit85); (try clear hRs); (try clear hRc); (try clear hRl); (try clear hRf); omega) | omega), by (first | ((try clear hsw); (try clear xtk); (try clear htk); (try clear x2); (try clear hn9); (try clear hl2); (try clear hl1); (try clear hm9); (try clear hsn); (try clear hf); (try clear hi); (try clear hexit85); (try clear hRs); (try clear hRc); (try clear hRl); (try clear hRf); omega) | omega)⟩ (by decide) (if_pos (by (first | ((try clear hsw); (try clear xtk); (try clear htk); (try clear x2); (try clear hn9); (try clear hl2); (try clear hl1); (try clear hm9); (try clear hsn); (try clear hf); (try clear hi); (try clear hexit85); (try clear hRs); (try clear hRc); (try clear hRl); (try clear hRf); omega) | omega))) dX9_seeWords_26 ?_
    refine fz_get (D := (dC, dI)) (ci := 1) (v := .int (iZ (μ (113 + (pg).toNat * 15) 2))) (C := RX1) (T := TX1) (N := 8) hx hb hts inG1 hown hK hP (k := (113 + (pg).toNat * 15)) (by (first | ((try clear hsw); (try clear xtk); (try clear htk); (try clear x2); (try clear hn9); (try clear hl2); (try clear hl1); (try clear hm9); (try clear hsn); (try clear hf); (try clear hi); (try clear hexit85); (try clear hRs); (try clear hRc); (try clear hRl); (try clear hRf); omega) | omega)) (F := (sLF h0 (113 + (pg).toNat * 15))) (sE_leafO (show (pg).toNat < 8 by (first | ((try clear hsw); (try clear xtk); (try clear htk); (try clear x2); (try clear hn9); (try clear hl2); (try clear hl1); (try clear hm9); (try clear hsn); (try clear hf); (try clear hi); (try clear hexit85); (try clear hRs); (try clear hRc); (try clear hRl); (try clear hRf); omega) | omega)) rfl) rfl 2 (by decide) (hts _ k301) (fun _ h9 => h9) rfl dX9_seeWords_27 ?_
    refine fz_icmp_ge (tgt := 85) (by first | assumption | (constructor <;> (first | ((try clear hsw); (try clear xtk); (try clear htk); (try clear x2); (try clear hn9); (try clear hl2); (try clear hl1); (try clear hm9); (try clear hsn); (try clear hf); (try clear hexit85); (try clear hpg); (try clear hRs); (try clear hRc); (try clear hRl); (try clear hRf); omega) | omega)) | decide) (by first | assumption | (constructor <;> (first | ((try clear hsw); (try clear xtk); (try clear htk); (try clear hl2); (try clear hl1); (try clear hm9); (try clear hsn); (try clear hf); (try clear hi); (try clear hexit85); (try clear hpg); (try clear hRs); (try clear hRc); (try clear hRl); (try clear hRf); omega) | omega)) | decide) hx hb dX9_seeWords_30 (by decide) (fun c30_ => ?_) (fun c30_ => ?_)
    · exact hexit85 (i) (fs) μ H locs ls (by exact hf) (by exact hsn) hP hS (lv_sub hl [1] rfl)
    · refine lv_aload_n hx hb dX9_seeWords_33 rfl (lv_at hl 5 rfl) ?_
      refine fz_get (D := (dC, dI)) (ci := 9) (v := .ref (h0 + 5)) (C := RX9) (T := TX9) (N := 15) hx hb hts inG9 hown hK hP (k := 0) (by decide) (F := (sF0 h0)) sE_0 rfl 1 (by decide) (hts _ k333) (fun _ h9 => h9) rfl dX9_seeWords_34 ?_
      refine lv_iload_n hx hb dX9_seeWords_37 rfl (lv_at hl 4 rfl) ?_
      refine fz_ald (k := 5) (n := 8) (k2 := (113 + (pg).toNat * 15)) hx hb hK hP 1 rfl (by decide) sE_5 rfl ⟨by (first | ((try clear c30_); (try clear hsw); (try clear xtk); (try clear htk); (try clear x2); (try clear hn9); (try clear hl2); (try clear hl1); (try clear hm9); (try clear hsn); (try clear hf); (try clear hi); (try clear hexit85); (try clear hRs); (try clear hRc); (try clear hRl); (try clear hRf); omega) | omega), by (first | ((try clear c30_); (try clear hsw); (try clear xtk); (try clear htk); (try clear x2); (try clear hn9); (try clear hl2); (try clear hl1); (try clear hm9); (try clear hsn); (try clear hf); (try clear hi); (try clear hexit85); (try clear hRs); (try clear hRc); (try clear hRl); (try clear hRf); omega) | omega)⟩ (by decide) (if_pos (by (first | ((try clear c30_); (try clear hsw); (try clear xtk); (try clear htk); (try clear x2); (try clear hn9); (try clear hl2); (try clear hl1); (try clear hm9); (try clear hsn); (try clear hf); (try clear hi); (try clear hexit85); (try clear hRs); (try clear hRc); (try clear hRl); (try clear hRf); omega) | omega))) dX9_seeWords_38 ?_
      refine fz_get (D := (dC, dI)) (ci := 1) (v := .ref (h0 + ((113 + (pg).toNat * 15) + 1))) (C := RX1) (T := TX1) (N := 8) hx hb hts inG1 hown hK hP (k := (113 + (pg).toNat * 15)) (by (first | ((try clear c30_); (try clear hsw); (try clear xtk); (try clear htk); (try clear x2); (try clear hn9); (try clear hl2); (try clear hl1); (try clear hm9); (try clear hsn); (try clear hf); (try clear hi); (try clear hexit85); (try clear hRs); (try clear hRc); (try clear hRl); (try clear hRf); omega) | omega)) (F := (sLF h0 (113 + (pg).toNat * 15))) (sE_leafO (show (pg).toNat < 8 by (first | ((try clear c30_); (try clear hsw); (try clear xtk); (try clear htk); (try clear x2); (try clear hn9); (try clear hl2); (try clear hl1); (try clear hm9); (try clear hsn); (try clear hf); (try clear hi); (try clear hexit85); (try clear hRs); (try clear hRc); (try clear hRl); (try clear hRf); omega) | omega)) rfl) rfl 0 (by decide) (hts _ k297) (fun _ h9 => h9) rfl dX9_seeWords_39 ?_
      refine lv_iload hx hb dX9_seeWords_42 (lv_at hl 0 rfl) ?_
      refine fz_ld (k := ((113 + (pg).toNat * 15) + 1)) (n := 60) hx hb hK hP 0 (by (first | ((try clear c30_); (try clear hsw); (try clear xtk); (try clear htk); (try clear x2); (try clear hn9); (try clear hl2); (try clear hl1); (try clear hm9); (try clear hsn); (try clear hf); (try clear hi); (try clear hexit85); (try clear hRs); (try clear hRc); (try clear hRl); (try clear hRf); omega) | omega)) (sE_leafA 1 60 (show (pg).toNat < 8 by (first | ((try clear c30_); (try clear hsw); (try clear xtk); (try clear htk); (try clear x2); (try clear hn9); (try clear hl2); (try clear hl1); (try clear hm9); (try clear hsn); (try clear hf); (try clear hi); (try clear hexit85); (try clear hRs); (try clear hRc); (try clear hRl); (try clear hRf); omega) | omega)) rfl (by decide)) rfl ⟨by (first | ((try clear c30_); (try clear hsw); (try clear xtk); (try clear htk); (try clear x2); (try clear hn9); (try clear hl2); (try clear hl1); (try clear hm9); (try clear hsn); (try clear hf); (try clear hexit85); (try clear hpg); (try clear hRs); (try clear hRc); (try clear hRl); (try clear hRf); omega) | omega), by (first | ((try clear hsw); (try clear xtk); (try clear htk); (try clear hl2); (try clear hl1); (try clear hm9); (try clear hsn); (try clear hf); (try clear hexit85); (try clear hpg); (try clear hRs); (try clear hRc); (try clear hRl); (try clear hRf); omega) | omega)⟩ (by decide) dX9_seeWords_44 ?_
      refine lv_istore (lv' := [(6, .int (iZ (μ ((113 + (pg).toNat * 15) + 1) (i).toNat))), (5, .int (iZ (i))), (4, .int (iZ (fs))), (3, .ref (h0 + ((113 + (pg).toNat * 15) + 10))), (2, .int (iZ (nd))), (1, .int (iZ (pg))), (0, .ref h0)]) hx hb dX9_seeWords_45 hl (by decide) rfl (fun ls hl => ?_)
      refine lv_aload_n hx hb dX9_seeWords_47 rfl (lv_at hl 3 rfl) ?_
      refine fz_get (D := (dC, dI)) (ci := 7) (v := .ref (h0 + ((113 + (pg).toNat * 15) + 11))) (C := RX7) (T := TX7) (N := 5) hx hb hts inG7 hown hK hP (k := ((113 + (pg).toNat * 15) + 10)) (by (first | ((try clear c30_); (try clear hsw); (try clear xtk); (try clear htk); (try clear x2); (try clear hn9); (try clear hl2); (try clear hl1); (try clear hm9); (try clear hsn); (try clear hf); (try clear hi); (try clear hexit85); (try clear hRs); (try clear hRc); (try clear hRl); (try clear hRf); omega) | omega)) (F := (sWF h0 (113 + (pg).toNat * 15))) (sE_walk (show (pg).toNat < 8 by (first | ((try clear c30_); (try clear hsw); (try clear xtk); (try clear htk); (try clear x2); (try clear hn9); (try clear hl2); (try clear hl1); (try clear hm9); (try clear hsn); (try clear hf); (try clear hi); (try clear hexit85); (try clear hRs); (try clear hRc); (try clear hRl); (try clear hRf); omega) | omega)) rfl) rfl 2 (by decide) (hts _ k278) (fun _ h9 => h9) rfl dX9_seeWords_48 ?_
      refine lv_iload hx hb dX9_seeWords_51 (lv_at hl 1 rfl) ?_
      refine fz_ld (k := ((113 + (pg).toNat * 15) + 11)) (n := 60) hx hb hK hP 0 (by (first | ((try clear c30_); (try clear hsw); (try clear xtk); (try clear htk); (try clear x2); (try clear hn9); (try clear hl2); (try clear hl1); (try clear hm9); (try clear hsn); (try clear hf); (try clear hi); (try clear hexit85); (try clear hRs); (try clear hRc); (try clear hRl); (try clear hRf); omega) | omega)) (sE_leafA 11 60 (show (pg).toNat < 8 by (first | ((try clear c30_); (try clear hsw); (try clear xtk); (try clear htk); (try clear x2); (try clear hn9); (try clear hl2); (try clear hl1); (try clear hm9); (try clear hsn); (try clear hf); (try clear hi); (try clear hexit85); (try clear hRs); (try clear hRc); (try clear hRl); (try clear hRf); omega) | omega)) rfl (by decide)) rfl ⟨by (first | ((try clear c30_); (try clear hsw); (try clear xtk); (try clear htk); (try clear x2); (try clear hn9); (try clear hl2); (try clear hl1); (try clear hm9); (try clear hsn); (try clear hf); (try clear hexit85); (try clear hpg); (try clear hRs); (try clear hRc); (try clear hRl); (try clear hRf); omega) | omega), by (first | ((try clear hsw); (try clear xtk); (try clear htk); (try clear hl2); (try clear hl1); (try clear hm9); (try clear hsn); (try clear hf); (try clear hexit85); (try clear hpg); (try clear hRs); (try clear hRc); (try clear hRl); (try clear hRf); omega) | omega)⟩ (by decide) dX9_seeWords_53 ?_
      refine lv_iload_n hx hb dX9_seeWords_54 rfl (lv_at hl 4 rfl) ?_
      refine fz_icmp_ne (tgt := 79) (by first | assumption | (constructor <;> omega) | decide) (by first | assumption | (constructor <;> omega) | decide) hx hb dX9_seeWords_55 (by decide) (fun c55_ => ?_) (fun c55_ => ?_)
      · refine lv_iinc (v := iZ (i + 1)) (lv' := [(5, .int (iZ (i + 1))), (6, .int (iZ (μ ((113 + (pg).toNat * 15) + 1) (i).toNat))), (4, .int (iZ (fs))), (3, .ref (h0 + ((113 + (pg).toNat * 15) + 10))), (2, .int (iZ (nd))), (1, .int (iZ (pg))), (0, .ref h0)]) hx hb dX9_seeWords_79 hl (k := 1) rfl (iZ_add _ _) (by decide) rfl (fun ls hl => ?_)
        refine lv_goto (tgt := 19) hx hb dX9_seeWords_82 (by decide) ?_
        exact ih (i + 1) (fs) μ H locs ls (by (first | ((try clear c55_); (try clear hsw); (try clear xtk); (try clear htk); (try clear hl2); (try clear hl1); (try clear hm9); (try clear hsn); (try clear hf); (try clear hexit85); (try clear hpg); (try clear hRs); (try clear hRc); (try clear hRl); (try clear hRf); omega) | omega)) (by exact hf) (by exact hsn) (by (first | ((try clear hsw); (try clear xtk); (try clear htk); (try clear hl2); (try clear hl1); (try clear hsn); (try clear hf); (try clear hexit85); (try clear hpg); (try clear hRs); (try clear hRc); (try clear hRl); (try clear hRf); omega) | omega)) hP hS (lv_sub hl [0, 2, 3, 4, 5, 6] rfl)
      · refine lv_aload_n hx hb dX9_seeWords_58 rfl (lv_at hl 6 rfl) ?_
        refine fz_get (D := (dC, dI)) (ci := 9) (v := .ref (h0 + 111)) (C := RX9) (T := TX9) (N := 15) hx hb hts inG9 hown hK hP (k := 0) (by decide) (F := (sF0 h0)) sE_0 rfl 13 (by decide) (hts _ k345) (fun _ h9 => h9) rfl dX9_seeWords_59 ?_
        refine lv_iload hx hb dX9_seeWords_62 (lv_at hl 0 rfl) ?_
        refine fz_ld (k := 111) (n := 200) hx hb hK hP 0 (by decide) sE_111 rfl ⟨by (first | ((try clear c55_); (try clear c30_); (try clear hsw); (try clear x2); (try clear hn9); (try clear hl2); (try clear hl1); (try clear hm9); (try clear hsn); (try clear hf); (try clear hi); (try clear hexit85); (try clear hpg); (try clear hRs); (try clear hRc); (try clear hRl); (try clear hRf); omega) | omega), by (first | ((try clear c55_); (try clear c30_); (try clear hsw); (try clear x2); (try clear hn9); (try clear hl2); (try clear hl1); (try clear hm9); (try clear hsn); (try clear hf); (try clear hi); (try clear hexit85); (try clear hpg); (try clear hRs); (try clear hRc); (try clear hRl); (try clear hRf); omega) | omega)⟩ (by decide) dX9_seeWords_64 ?_
        refine fz_if_ne (tgt := 79) (by first | assumption | (constructor <;> omega) | decide) hx hb dX9_seeWords_65 (by decide) (fun c65_ => ?_) (fun c65_ => ?_)
        · refine lv_iinc (v := iZ (i + 1)) (lv' := [(5, .int (iZ (i + 1))), (6, .int (iZ (μ ((113 + (pg).toNat * 15) + 1) (i).toNat))), (4, .int (iZ (fs))), (3, .ref (h0 + ((113 + (pg).toNat * 15) + 10))), (2, .int (iZ (nd))), (1, .int (iZ (pg))), (0, .ref h0)]) hx hb dX9_seeWords_79 hl (k := 1) rfl (iZ_add _ _) (by decide) rfl (fun ls hl => ?_)
          refine lv_goto (tgt := 19) hx hb dX9_seeWords_82 (by decide) ?_
          exact ih (i + 1) (fs) μ H locs ls (by (first | ((try clear c65_); (try clear c55_); (try clear hsw); (try clear xtk); (try clear htk); (try clear hl2); (try clear hl1); (try clear hm9); (try clear hsn); (try clear hf); (try clear hexit85); (try clear hpg); (try clear hRs); (try clear hRc); (try clear hRl); (try clear hRf); omega) | omega)) (by exact hf) (by exact hsn) (by (first | ((try clear c55_); (try clear hsw); (try clear xtk); (try clear htk); (try clear hl2); (try clear hl1); (try clear hsn); (try clear hf); (try clear hexit85); (try clear hpg); (try clear hRs); (try clear hRc); (try clear hRl); (try clear hRf); omega) | omega)) hP hS (lv_sub hl [0, 2, 3, 4, 5, 6] rfl)
        · refine lv_aload_n hx hb dX9_seeWords_68 rfl (lv_at hl 6 rfl) ?_
          refine fz_get (D := (dC, dI)) (ci := 9) (v := .ref (h0 + 111)) (C := RX9) (T := TX9) (N := 15) hx hb hts inG9 hown hK hP (k := 0) (by decide) (F := (sF0 h0)) sE_0 rfl 13 (by decide) (hts _ k345) (fun _ h9 => h9) rfl dX9_seeWords_69 ?_
          refine lv_iload hx hb dX9_seeWords_72 (lv_at hl 0 rfl) ?_
          refine lv_iconst (v := iZ 1) hx hb dX9_seeWords_74 rfl ?_
          refine fz_st (k := 111) (n := 200) (i := (μ ((113 + (pg).toNat * 15) + 1) (i).toNat)) (z := 1) hx hb hK hP fA_in hS 0 (by decide) sE_111 rfl ⟨by (first | ((try clear c65_); (try clear c55_); (try clear c30_); (try clear hsw); (try clear x2); (try clear hn9); (try clear hl2); (try clear hl1); (try clear hm9); (try clear hsn); (try clear hf); (try clear hi); (try clear hexit85); (try clear hpg); (try clear hRs); (try clear hRc); (try clear hRl); (try clear hRf); omega) | omega), by (first | ((try clear c65_); (try clear c55_); (try clear c30_); (try clear hsw); (try clear x2); (try clear hn9); (try clear hl2); (try clear hl1); (try clear hm9); (try clear hsn); (try clear hf); (try clear hi); (try clear hexit85); (try clear hpg); (try clear hRs); (try clear hRc); (try clear hRl); (try clear hRf); omega) | omega)⟩ (by decide) dX9_seeWords_75 (fun H locs hP hS => ?_)
          obtain ⟨μ1, eμ1⟩ : ∃ x : va_M, x = uz μ 111 (μ ((113 + (pg).toNat * 15) + 1) (i).toNat).toNat (1) := ⟨_, rfl⟩
          rw [← eμ1] at hP
          refine lv_iinc (v := iZ (fs + 1)) (lv' := [(4, .int (iZ (fs + 1))), (6, .int (iZ (μ ((113 + (pg).toNat * 15) + 1) (i).toNat))), (5, .int (iZ (i))), (3, .ref (h0 + ((113 + (pg).toNat * 15) + 10))), (2, .int (iZ (nd))), (1, .int (iZ (pg))), (0, .ref h0)]) hx hb dX9_seeWords_76 hl (k := 2) rfl (iZ_add _ _) (by decide) rfl (fun ls hl => ?_)
          refine lv_iinc (v := iZ (i + 1)) (lv' := [(5, .int (iZ (i + 1))), (4, .int (iZ (fs + 1))), (6, .int (iZ (μ ((113 + (pg).toNat * 15) + 1) (i).toNat))), (3, .ref (h0 + ((113 + (pg).toNat * 15) + 10))), (2, .int (iZ (nd))), (1, .int (iZ (pg))), (0, .ref h0)]) hx hb dX9_seeWords_79 hl (k := 2) rfl (iZ_add _ _) (by decide) rfl (fun ls hl => ?_)
          refine lv_goto (tgt := 19) hx hb dX9_seeWords_82 (by decide) ?_
          exact ih (i + 1) (fs + 1) μ1 H locs ls (by (first | ((try clear x); (try clear eμ1); (try clear μ1); (try clear c65_); (try clear c55_); (try clear hsw); (try clear xtk); (try clear htk); (try clear hl2); (try clear hl1); (try clear hm9); (try clear hsn); (try clear hf); (try clear hexit85); (try clear hpg); (try clear hRs); (try clear hRc); (try clear hRl); (try clear hRf); omega) | omega)) (by rw [eμ1]; exact fr_uz hf rfl) (by
                            intro j
                            rw [eμ1]
                            by_cases e : j = (μ (113 + (pg).toNat * 15 + 1) i.toNat).toNat
                            · rw [e, uz_s]; constructor <;> decide
                            · rw [uz_n (by (first | ((try clear x); (try clear eμ1); (try clear μ1); (try clear c65_); (try clear c55_); (try clear c30_); (try clear hsw); (try clear xtk); (try clear htk); (try clear x2); (try clear hn9); (try clear hl2); (try clear hl1); (try clear hm9); (try clear hsn); (try clear hf); (try clear hi); (try clear hexit85); (try clear hpg); (try clear hRs); (try clear hRc); (try clear hRl); (try clear hRf); omega) | omega))]; exact hsn j) (by (first | ((try clear j); (try clear x); (try clear eμ1); (try clear μ1); (try clear c65_); (try clear c55_); (try clear hsw); (try clear xtk); (try clear htk); (try clear hl2); (try clear hl1); (try clear hsn); (try clear hf); (try clear hexit85); (try clear hpg); (try clear hRs); (try clear hRc); (try clear hRl); (try clear hRf); omega) | omega)) hP hS (lv_sub hl [0, 1, 3, 4, 5, 6] rfl)
set_option maxHeartbeats 4000000 in
set_option maxRecDepth 100000 in
theorem s_seeWords (l : Launch) (dC : Nat → ClassId) (dI : Nat → Nat → Nat) (cI cZ cII cIII : ClassId) (h0 sz : Nat) (μ : va_M) (pg : Int) (nd : Int) (T : List Tk) (hI : CI T μ) (hpg : 0 ≤ pg ∧ pg < μ 0 2) (h_nd : inR nd) : Met l yX9_seeWords (Cond.code yX9_seeWords cX9_seeWords 7 (some .int) :: wsG) ({ frames := 7, cells := 0, slots := 0, locals := 163 } : Room) (va_Pc [.ref h0, .int (iZ (pg)), .int (iZ (nd))] (fun U => U.heap.size = sz ∧ va_P (dC, dI) vwCl (fw (sE cI cZ cII cIII h0) h0 233 μ) U.heap ∧ va_K (dC, dI) vwCl (sT cI cZ cII cIII) U ∧ xM U)) (va_Qi (fun (r9 : Int32) (u : va_M × Int) => r9 = iZ u.2 ∧ (fun (u : va_M) (r : Int) => CI T u ∧ fr WQ μ u) u.1 u.2) (fun u t => va_P (dC, dI) vwCl (fw (sE cI cZ cII cIII h0) h0 233 u.1) t.heap ∧ va_K (dC, dI) vwCl (sT cI cZ cII cIII) t) (fA h0 233 sz)) 0 0 (fA h0 233 sz) := by
  refine Met.ofW (cc := cX9_seeWords) (maxL := 7) (ret := (some .int)) (by decide) rfl ?_
  intro p e s m args below meth c s₁ B hml hv
  obtain ⟨rfl, hsz, hP, hK, hM⟩ := hv
  have hx := B.exec
  have hb := B.bytes
  have hr := B.returns
  have hts : ∀ w ∈ wsG, w.before _ s = true := hG_of (atoms_spec (ws := (Cond.code yX9_seeWords cX9_seeWords 7 (some .int) :: wsG)) B.pre)
  have hown : s.vm.findClass RX9 = some m.cls := findClass_of_methodNamed B.named
  have hlocks := B.notSynchronized
  subst hsz
  have hS : va_S (fA h0 233 s.heap.size) s.heap s.heap [] := va_S.rf
  have hl := lv_entry ([.ref h0, .int (iZ (pg)), .int (iZ (nd))]) (n := 7) (Nat.le_of_ble_eq_true rfl)
  rw [lg_entry_eq]
  generalize (lg_sl ([.ref h0, .int (iZ (pg)), .int (iZ (nd))]) ++ List.replicate (7 - (lg_sl ([.ref h0, .int (iZ (pg)), .int (iZ (nd))])).length) Slot.unset).toArray = ls at hl ⊢
  have hl : lv_has ls 7 [(0, .ref h0), (1, .int (iZ (pg))), (2, .int (iZ (nd)))] := hl
  have h66 := CI_n6 hI
  have hlc := CI_lc hI
  refine lv_aload_n hx hb dX9_seeWords_0 rfl (lv_at hl 0 rfl) ?_
  refine lv_iload_n hx hb dX9_seeWords_1 rfl (lv_at hl 1 rfl) ?_
  refine va_callr (va_runV (As := [.int (iZ (pg))]) (rest := []) ⟨hx, hb, hml, hown, hts⟩ (s_walkOf l dC dI cI cZ cII cIII h0 s.heap.size μ (pg) (T) (by exact hI) (by first | assumption | omega)) (cwV 1 hts (gV_G k535 k537 ks_yX9_walkOf k1 k538) rfl rfl rfl (by decide +kernel) ⟨Nat.le_of_ble_eq_true rfl, Nat.le_of_ble_eq_true rfl⟩) ⟨fun a U g mk q => by obtain ⟨q0, q1, qP, qK, qM⟩ := q; exact ⟨q0, q1, qP, va_K.moved (u := U) (U := U.calling g mk a) (Vm.Alike.refl U.vm) qK, qM⟩, va_recv hK hP (ci := 9) (q0 := 0) rfl ((fw_get (by decide)).trans (by rw [sE_0]; rfl)), fun U hU hW => ⟨rfl, by rw [hU], by rw [hU]; exact hP, va_K.moved hW.alike hK, xM_warm hW hM⟩⟩ rfl rfl hl.1 rfl (lv_room (Nat.le_of_ble_eq_true rfl)) dX9_seeWords_2 ⟨Nat.le_of_ble_eq_true rfl, Nat.le_of_ble_eq_true rfl⟩) hS (fun q _ h => fA_le hS.1 q h) (fA_le hS.1) (fun u9 ra9 t9 H1 locs ht9 hvm9 hw9 hB9 hz9 hk9 hS => ?_)
  obtain ⟨hra9, hP, -⟩ := hB9
  subst hra9
  rw [ht9] at hP
  generalize H1 = H at hP hS ⊢
  obtain ⟨μw, eμw⟩ : ∃ x : va_M, x = u9 := ⟨_, rfl⟩
  rw [← eμw] at hP hw9
  have hμw := hw9; clear hw9
  obtain ⟨c1_, f1_⟩ := hμw
  have x66 : μw 6 6 = μ 6 6 := f1_ _ _ (by unfold WQ Zc; (first | ((try clear x66); (try clear f1_); (try clear c1_); (try clear hμw); (try clear x); (try clear eμw); (try clear μw); (try clear hra9); (try clear hz9); (try clear ra9); (try clear hlc); (try clear h66); (try clear hsz); (try clear s₁); (try clear hpg); omega) | omega))
  obtain ⟨wl1, wl2⟩ := CI_lf c1_ pg (by (first | ((try clear wl2); (try clear wl1); (try clear x66); (try clear f1_); (try clear c1_); (try clear hμw); (try clear x); (try clear eμw); (try clear hra9); (try clear hz9); (try clear ra9); (try clear hlc); (try clear h66); (try clear hsz); (try clear s₁); omega) | omega)) (by have := CI_lc hI; (first | ((try clear wl2); (try clear wl1); (try clear x66); (try clear f1_); (try clear c1_); (try clear hμw); (try clear x); (try clear eμw); (try clear hra9); (try clear hz9); (try clear ra9); (try clear h66); (try clear hsz); (try clear s₁); omega) | omega))
  have w66 := CI_n6 c1_
  refine lv_astore_n (lv' := [(3, .ref (h0 + ((113 + (pg).toNat * 15) + 10))), (0, .ref h0), (1, .int (iZ (pg))), (2, .int (iZ (nd)))]) hx hb dX9_seeWords_5 rfl hl (by decide) rfl (fun ls hl => ?_)
  refine lv_iconst (v := iZ 0) hx hb dX9_seeWords_6 rfl ?_
  refine lv_istore (lv' := [(4, .int (iZ (0))), (3, .ref (h0 + ((113 + (pg).toNat * 15) + 10))), (0, .ref h0), (1, .int (iZ (pg))), (2, .int (iZ (nd)))]) hx hb dX9_seeWords_7 hl (by decide) rfl (fun ls hl => ?_)
  refine lv_aload_n hx hb dX9_seeWords_9 rfl (lv_at hl 1 rfl) ?_
  refine va_calli (va_runV (As := []) (rest := []) ⟨hx, hb, hml, hown, hts⟩ (s_KisThrough l dC dI cI cZ cII cIII h0 H.size μw ((113 + (pg).toNat * 15)) ((pg).toNat) (rfl) ((show (pg).toNat < 8 by (first | ((try clear w66); (try clear wl2); (try clear wl1); (try clear x66); (try clear f1_); (try clear c1_); (try clear hμw); (try clear x); (try clear eμw); (try clear hra9); (try clear hz9); (try clear ra9); (try clear h66); (try clear hsz); (try clear s₁); omega) | omega))) (by constructor <;> (first | ((try clear w66); (try clear wl1); (try clear x66); (try clear f1_); (try clear c1_); (try clear hμw); (try clear x); (try clear eμw); (try clear hra9); (try clear hz9); (try clear ra9); (try clear hlc); (try clear h66); (try clear hsz); (try clear s₁); (try clear hpg); omega) | omega))) (cwV 0 hts (gV_G k579 k580 k581 k11 k582) rfl rfl rfl (by decide +kernel) ⟨Nat.le_of_ble_eq_true rfl, Nat.le_of_ble_eq_true rfl⟩) ⟨fun a U g mk q => by obtain ⟨q0, q1, qP, qK, qM⟩ := q; exact ⟨q0, q1, qP, va_K.moved (u := U) (U := U.calling g mk a) (Vm.Alike.refl U.vm) qK, qM⟩, va_recv hK hP (ci := 7) (q0 := ((113 + (pg).toNat * 15) + 10)) rfl ((fw_get (by (first | ((try clear q); (try clear mk); (try clear g); (try clear U); (try clear w66); (try clear wl2); (try clear wl1); (try clear x66); (try clear f1_); (try clear c1_); (try clear hμw); (try clear x); (try clear eμw); (try clear hra9); (try clear hz9); (try clear ra9); (try clear h66); (try clear hsz); (try clear s₁); omega) | omega))).trans (by rw [(sE_walk (show (pg).toNat < 8 by (first | ((try clear q); (try clear mk); (try clear g); (try clear U); (try clear w66); (try clear wl2); (try clear wl1); (try clear x66); (try clear f1_); (try clear c1_); (try clear hμw); (try clear x); (try clear eμw); (try clear hra9); (try clear hz9); (try clear ra9); (try clear h66); (try clear hsz); (try clear s₁); omega) | omega)) rfl)])), fun U hU hW => ⟨rfl, by rw [hU], by rw [hU]; exact hP, va_K.moved hW.alike hK, xM_warm hW hM⟩⟩ rfl rfl hl.1 rfl (lv_room (Nat.le_of_ble_eq_true rfl)) dX9_seeWords_10 ⟨Nat.le_of_ble_eq_true rfl, Nat.le_of_ble_eq_true rfl⟩) hS (fun q _ h => fA_le hS.1 q h) (fA_le hS.1) (fun r9 u9 t9 H1 locs ht9 hvm9 hw9 hB9 hz9 hk9 hS => ?_)
  obtain ⟨μi, ri⟩ := u9
  obtain ⟨hP, -⟩ := hB9
  rw [ht9] at hP
  generalize H1 = H at hP hS ⊢
  obtain ⟨e9, hw9⟩ := hw9
  have e9 : r9 = iZ ri := e9
  subst e9
  simp only at hP hw9
  have hμi := hw9; clear hw9
  rw [hμi.1] at hP; have hμi := hμi.2
  have hri := hμi
  refine fz_if_eq (tgt := 85) (by first | assumption | (constructor <;> (first | ((try clear hμi); (try clear μi); (try clear hz9); (try clear w66); (try clear wl2); (try clear wl1); (try clear x66); (try clear f1_); (try clear c1_); (try clear hμw); (try clear x); (try clear eμw); (try clear hra9); (try clear ra9); (try clear hlc); (try clear h66); (try clear hsz); (try clear s₁); (try clear hpg); omega) | omega)) | decide) hx hb dX9_seeWords_13 (by decide) (fun c13_ => ?_) (fun c13_ => ?_)
  · refine lv_iload hx hb dX9_seeWords_85 (lv_at hl 0 rfl) ?_
    exact W.iret (v := iZ (0)) hx hb hr (fun t9 ht9 hW9 => ⟨⟨iZ (0), (μw, 0), rfl, ⟨rfl, (by
                dsimp only
                exact ⟨c1_, f1_⟩)⟩, by rw [ht9]; exact hP, va_K.moved hW9.alike hK⟩, hS.F ht9⟩) hS.2.2 dX9_seeWords_87
  · refine lv_iconst (v := iZ 0) hx hb dX9_seeWords_16 rfl ?_
    refine lv_istore (lv' := [(5, .int (iZ (0))), (4, .int (iZ (0))), (3, .ref (h0 + ((113 + (pg).toNat * 15) + 10))), (0, .ref h0), (1, .int (iZ (pg))), (2, .int (iZ (nd)))]) hx hb dX9_seeWords_17 hl (by decide) rfl (fun ls hl => ?_)
    refine LX9_seeWords_19 hx hb hml hown hts hK hM (Nat.le_of_ble_eq_true rfl) (Nat.le_of_ble_eq_true rfl) (Nat.le_of_ble_eq_true rfl) (Nat.le_of_ble_eq_true rfl) (μw) (T) (pg) (nd) (by exact c1_) (by (first | ((try clear c13_); (try clear hri); (try clear hμi); (try clear ri); (try clear μi); (try clear hz9); (try clear w66); (try clear wl2); (try clear wl1); (try clear x66); (try clear f1_); (try clear c1_); (try clear hμw); (try clear x); (try clear eμw); (try clear hra9); (try clear ra9); (try clear h66); (try clear hsz); (try clear s₁); omega) | omega)) (by assumption) ?_ _ (0) (0) μw H locs ls (by decide) (by exact fr_rfl) (by intro j; exact c1_.2 _ _ (by unfold Zc; (first | ((try clear c13_); (try clear hri); (try clear hμi); (try clear ri); (try clear μi); (try clear hz9); (try clear w66); (try clear wl2); (try clear wl1); (try clear x66); (try clear f1_); (try clear c1_); (try clear hμw); (try clear x); (try clear eμw); (try clear hra9); (try clear ra9); (try clear hlc); (try clear h66); (try clear hsz); (try clear s₁); (try clear hpg); omega) | omega)) (by (first | ((try clear j); (try clear c13_); (try clear hri); (try clear hμi); (try clear ri); (try clear μi); (try clear hz9); (try clear w66); (try clear wl2); (try clear wl1); (try clear x66); (try clear f1_); (try clear c1_); (try clear hμw); (try clear x); (try clear eμw); (try clear hra9); (try clear ra9); (try clear hlc); (try clear h66); (try clear hsz); (try clear s₁); (try clear hpg); omega) | omega))) (Nat.lt_succ_self _) hP hS (lv_sub hl [0, 1, 2, 5, 4, 3] rfl)
    · intro i_2 fs_2 μ2_ H locs ls q1_2 q2_2 hP hS hl
      have hl : lv_has ls 7 [(4, .int (iZ (fs_2)))] := hl
      refine lv_iload hx hb dX9_seeWords_85 (lv_at hl 0 rfl) ?_
      exact W.iret (v := iZ (fs_2)) hx hb hr (fun t9 ht9 hW9 => ⟨⟨iZ (fs_2), (μ2_, fs_2), rfl, ⟨rfl, (by
                    dsimp only
                    exact ⟨CI_sn c1_ q1_2 q2_2, fr_trans f1_ (fr_mono q1_2 (fun x y h => by unfold WQ Zc; (first | ((try clear q2_2); (try clear q1_2); (try clear μ2_); (try clear fs_2); (try clear i_2); (try clear c13_); (try clear hri); (try clear hμi); (try clear ri); (try clear μi); (try clear hz9); (try clear w66); (try clear wl2); (try clear wl1); (try clear x66); (try clear f1_); (try clear c1_); (try clear hμw); (try clear eμw); (try clear hra9); (try clear ra9); (try clear hlc); (try clear h66); (try clear hsz); (try clear s₁); (try clear hpg); omega) | omega)))⟩)⟩, by rw [ht9]; exact hP, va_K.moved hW9.alike hK⟩, hS.F ht9⟩) hS.2.2 dX9_seeWords_87

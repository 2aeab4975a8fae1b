set_option maxRecDepth 100000 in
theorem k81 : (Cond.fieldLink "PageSkeleton$Walker" (51 : Nat) "PageSkeleton$Row" "code" "[I") ∈ wsG := wsG_a1 81 rfl rfl
set_option maxRecDepth 100000 in
theorem k86 : (Cond.fieldLink "PageSkeleton$Walker" (54 : Nat) "PageSkeleton$Row" "mate" "[I") ∈ wsG := wsG_a1 86 rfl rfl
set_option maxRecDepth 100000 in
theorem k89 : (Cond.fieldLink "PageSkeleton$Walker" (92 : Nat) "PageSkeleton$Row" "number" "[I") ∈ wsG := wsG_a1 89 rfl rfl
set_option maxRecDepth 100000 in
theorem k93 : (Cond.fieldLink "PageSkeleton$Walker" (19 : Nat) "PageSkeleton$Row" "length" "I") ∈ wsG := wsG_a1 93 rfl rfl
set_option maxRecDepth 100000 in
theorem k102 : (Cond.fieldLink "PageSkeleton$Walker" (80 : Nat) "PageSkeleton$Row" "nodes" "I") ∈ wsG := wsG_a1 102 rfl rfl
set_option maxRecDepth 100000 in
theorem k274 : (Cond.fieldLink "PageSkeleton$Walker" (75 : Nat) "PageSkeleton$Walk" "wayCount" "I") ∈ wsG := wsG_a2 34 rfl rfl
set_option maxRecDepth 100000 in
theorem k277 : (Cond.fieldLink "PageSkeleton$Walker" (89 : Nat) "PageSkeleton$Walk" "takers" "[I") ∈ wsG := wsG_a2 37 rfl rfl
set_option maxRecDepth 100000 in
theorem k280 : (Cond.fieldLink "PageSkeleton$Walker" (83 : Nat) "PageSkeleton$Walk" "there" "[I") ∈ wsG := wsG_a2 40 rfl rfl
set_option maxRecDepth 100000 in
theorem k283 : (Cond.fieldLink "PageSkeleton$Walker" (86 : Nat) "PageSkeleton$Walk" "passed" "[I") ∈ wsG := wsG_a2 43 rfl rfl
set_option maxRecDepth 100000 in
theorem k543 : (Cond.methodLink "PageSkeleton$Walker" (71 : Nat) ({ cls := "PageSkeleton$Walker", name := "goThrough", desc := "(LPageSkeleton$Row;[III)I" } : MethodName)) ∈ wsG := wsG_a3 63 rfl rfl
set_option maxRecDepth 100000 in
theorem k544 : (Cond.instanceMethod ({ cls := "PageSkeleton$Walker", name := "goThrough", desc := "(LPageSkeleton$Row;[III)I" } : MethodName)) ∈ wsG := wsG_a3 64 rfl rfl
set_option maxRecDepth 100000 in
theorem k545 : (Cond.selects "PageSkeleton$Walker" ({ cls := "PageSkeleton$Walker", name := "goThrough", desc := "(LPageSkeleton$Row;[III)I" } : MethodName) ({ cls := "PageSkeleton$Walker", name := "goThrough", desc := "(LPageSkeleton$Row;[III)I" } : MethodName)) ∈ wsG := wsG_a3 65 rfl rfl
set_option maxRecDepth 100000 in
theorem k546 : (Cond.code ({ cls := "PageSkeleton$Walker", name := "goThrough", desc := "(LPageSkeleton$Row;[III)I" } : MethodName) prog_10_method_2_code (9 : Nat) (Option.some FieldType.int)) ∈ wsG := wsG_a3 66 rfl rfl
set_option maxRecDepth 100000 in
theorem k547 : (Cond.methodLink "PageSkeleton$Walker" (25 : Nat) ({ cls := "PageSkeleton$Walker", name := "atEnd", desc := "(III)I" } : MethodName)) ∈ wsG := wsG_a3 67 rfl rfl
set_option maxRecDepth 100000 in
theorem k548 : (Cond.static ({ cls := "PageSkeleton$Walker", name := "atEnd", desc := "(III)I" } : MethodName)) ∈ wsG := wsG_a3 68 rfl rfl
set_option maxRecDepth 100000 in
theorem k549 : (Cond.code ({ cls := "PageSkeleton$Walker", name := "atEnd", desc := "(III)I" } : MethodName) prog_10_method_3_code (3 : Nat) (Option.some FieldType.int)) ∈ wsG := wsG_a3 69 rfl rfl
set_option maxRecDepth 100000 in
theorem k550 : (Cond.methodLink "PageSkeleton$Walker" (29 : Nat) ({ cls := "PageSkeleton$Walker", name := "nothing", desc := "(II)I" } : MethodName)) ∈ wsG := wsG_a3 70 rfl rfl
set_option maxRecDepth 100000 in
theorem k551 : (Cond.static ({ cls := "PageSkeleton$Walker", name := "nothing", desc := "(II)I" } : MethodName)) ∈ wsG := wsG_a3 71 rfl rfl
set_option maxRecDepth 100000 in
theorem k552 : (Cond.code ({ cls := "PageSkeleton$Walker", name := "nothing", desc := "(II)I" } : MethodName) prog_10_method_4_code (2 : Nat) (Option.some FieldType.int)) ∈ wsG := wsG_a3 72 rfl rfl
set_option maxRecDepth 100000 in
theorem k554 : (Cond.methodLink "PageSkeleton$Walker" (33 : Nat) ({ cls := "PageSkeleton$Walker", name := "goInward", desc := "(LPageSkeleton$Row;I[IIII)V" } : MethodName)) ∈ wsG := wsG_a3 74 rfl rfl
set_option maxRecDepth 100000 in
theorem k556 : (Cond.instanceMethod ({ cls := "PageSkeleton$Walker", name := "goInward", desc := "(LPageSkeleton$Row;I[IIII)V" } : MethodName)) ∈ wsG := wsG_a3 76 rfl rfl
set_option maxRecDepth 100000 in
theorem k557 : (Cond.code ({ cls := "PageSkeleton$Walker", name := "goInward", desc := "(LPageSkeleton$Row;I[IIII)V" } : MethodName) prog_10_method_6_code (11 : Nat) (Option.none : Option Jvm.ClassFile.FieldType)) ∈ wsG := wsG_a3 77 rfl rfl
set_option maxRecDepth 100000 in
theorem k558 : (Cond.methodLink "PageSkeleton$Walker" (57 : Nat) ({ cls := "PageSkeleton$Walker", name := "either", desc := "(III)I" } : MethodName)) ∈ wsG := wsG_a3 78 rfl rfl
set_option maxRecDepth 100000 in
theorem k559 : (Cond.static ({ cls := "PageSkeleton$Walker", name := "either", desc := "(III)I" } : MethodName)) ∈ wsG := wsG_a3 79 rfl rfl
set_option maxRecDepth 100000 in
theorem k560 : (Cond.code ({ cls := "PageSkeleton$Walker", name := "either", desc := "(III)I" } : MethodName) prog_10_method_5_code (3 : Nat) (Option.some FieldType.int)) ∈ wsG := wsG_a3 80 rfl rfl
set_option maxRecDepth 100000 in
theorem k564 : (Cond.methodLink "PageSkeleton$Walker" (60 : Nat) ({ cls := "PageSkeleton$Walker", name := "takes", desc := "(II)Z" } : MethodName)) ∈ wsG := wsG_a3 84 rfl rfl
set_option maxRecDepth 100000 in
theorem k565 : (Cond.static ({ cls := "PageSkeleton$Walker", name := "takes", desc := "(II)Z" } : MethodName)) ∈ wsG := wsG_a3 85 rfl rfl
set_option maxRecDepth 100000 in
theorem k566 : (Cond.code ({ cls := "PageSkeleton$Walker", name := "takes", desc := "(II)Z" } : MethodName) prog_10_method_7_code (2 : Nat) (Option.some FieldType.boolean)) ∈ wsG := wsG_a3 86 rfl rfl
set_option maxRecDepth 100000 in
theorem k570 : (Cond.methodLink "PageSkeleton$Walker" (37 : Nat) ({ cls := "PageSkeleton$Walker", name := "goOn", desc := "(LPageSkeleton$Row;III)V" } : MethodName)) ∈ wsG := wsG_a3 90 rfl rfl
set_option maxRecDepth 100000 in
theorem k572 : (Cond.instanceMethod ({ cls := "PageSkeleton$Walker", name := "goOn", desc := "(LPageSkeleton$Row;III)V" } : MethodName)) ∈ wsG := wsG_a3 92 rfl rfl
set_option maxRecDepth 100000 in
theorem k573 : (Cond.code ({ cls := "PageSkeleton$Walker", name := "goOn", desc := "(LPageSkeleton$Row;III)V" } : MethodName) prog_10_method_8_code (7 : Nat) (Option.none : Option Jvm.ClassFile.FieldType)) ∈ wsG := wsG_a3 93 rfl rfl
set_option maxRecDepth 100000 in
theorem k575 : (Cond.methodLink "PageSkeleton$Walker" (95 : Nat) ({ cls := "PageSkeleton$Walker", name := "chooseAt", desc := "(LPageSkeleton$Row;IILPageSkeleton$Walk;)I" } : MethodName)) ∈ wsG := wsG_a3 95 rfl rfl
set_option maxRecDepth 100000 in
theorem k577 : (Cond.instanceMethod ({ cls := "PageSkeleton$Walker", name := "chooseAt", desc := "(LPageSkeleton$Row;IILPageSkeleton$Walk;)I" } : MethodName)) ∈ wsG := wsG_a3 97 rfl rfl
set_option maxRecDepth 100000 in
theorem k578 : (Cond.code ({ cls := "PageSkeleton$Walker", name := "chooseAt", desc := "(LPageSkeleton$Row;IILPageSkeleton$Walk;)I" } : MethodName) prog_10_method_10_code (6 : Nat) (Option.some FieldType.int)) ∈ wsG := wsG_a3 98 rfl rfl
set_option maxRecDepth 100000 in
theorem ks_yX8_goInward : Cond.selects RX8 yX8_goInward yX8_goInward ∈ wsG := wsG_p 9 rfl rfl
set_option maxRecDepth 100000 in
theorem ks_yX8_goOn : Cond.selects RX8 yX8_goOn yX8_goOn ∈ wsG := wsG_p 10 rfl rfl
set_option maxRecDepth 100000 in
theorem ks_yX8_chooseAt : Cond.selects RX8 yX8_chooseAt yX8_chooseAt ∈ wsG := wsG_p 11 rfl rfl
theorem dX8_chooseAt_0 : decode cX8_chooseAt 0 = .ok (.aload_n 1, 1) := by decide +kernel
theorem dX8_chooseAt_1 : decode cX8_chooseAt 1 = .ok (.getfield 54, 3) := by decide +kernel
theorem dX8_chooseAt_4 : decode cX8_chooseAt 4 = .ok (.iload_n 2, 1) := by decide +kernel
theorem dX8_chooseAt_5 : decode cX8_chooseAt 5 = .ok (.iaload, 1) := by decide +kernel
theorem dX8_chooseAt_6 : decode cX8_chooseAt 6 = .ok (.istore 5, 2) := by decide +kernel
theorem dX8_chooseAt_8 : decode cX8_chooseAt 8 = .ok (.aload_n 1, 1) := by decide +kernel
theorem dX8_chooseAt_9 : decode cX8_chooseAt 9 = .ok (.getfield 51, 3) := by decide +kernel
theorem dX8_chooseAt_12 : decode cX8_chooseAt 12 = .ok (.iload_n 2, 1) := by decide +kernel
theorem dX8_chooseAt_13 : decode cX8_chooseAt 13 = .ok (.iaload, 1) := by decide +kernel
theorem dX8_chooseAt_14 : decode cX8_chooseAt 14 = .ok (.sipush 513, 3) := by decide +kernel
theorem dX8_chooseAt_17 : decode cX8_chooseAt 17 = .ok (.if_icmp .ne 40, 3) := by decide +kernel
theorem dX8_chooseAt_20 : decode cX8_chooseAt 20 = .ok (.aload_n 0, 1) := by decide +kernel
theorem dX8_chooseAt_21 : decode cX8_chooseAt 21 = .ok (.getfield 10, 3) := by decide +kernel
theorem dX8_chooseAt_24 : decode cX8_chooseAt 24 = .ok (.iload_n 3, 1) := by decide +kernel
theorem dX8_chooseAt_25 : decode cX8_chooseAt 25 = .ok (.iload_n 2, 1) := by decide +kernel
theorem dX8_chooseAt_26 : decode cX8_chooseAt 26 = .ok (.iadd, 1) := by decide +kernel
theorem dX8_chooseAt_27 : decode cX8_chooseAt 27 = .ok (.iconst 1, 1) := by decide +kernel
theorem dX8_chooseAt_28 : decode cX8_chooseAt 28 = .ok (.iadd, 1) := by decide +kernel
theorem dX8_chooseAt_29 : decode cX8_chooseAt 29 = .ok (.iaload, 1) := by decide +kernel
theorem dX8_chooseAt_30 : decode cX8_chooseAt 30 = .ok (.ifCond .ne 8, 3) := by decide +kernel
theorem dX8_chooseAt_33 : decode cX8_chooseAt 33 = .ok (.iload 5, 2) := by decide +kernel
theorem dX8_chooseAt_35 : decode cX8_chooseAt 35 = .ok (.iconst 1, 1) := by decide +kernel
theorem dX8_chooseAt_36 : decode cX8_chooseAt 36 = .ok (.iadd, 1) := by decide +kernel
theorem dX8_chooseAt_37 : decode cX8_chooseAt 37 = .ok (.ireturn, 1) := by decide +kernel
theorem dX8_chooseAt_38 : decode cX8_chooseAt 38 = .ok (.aload 4, 2) := by decide +kernel
theorem dX8_chooseAt_40 : decode cX8_chooseAt 40 = .ok (.getfield 83, 3) := by decide +kernel
theorem dX8_chooseAt_43 : decode cX8_chooseAt 43 = .ok (.aload_n 1, 1) := by decide +kernel
theorem dX8_chooseAt_44 : decode cX8_chooseAt 44 = .ok (.getfield 92, 3) := by decide +kernel
theorem dX8_chooseAt_47 : decode cX8_chooseAt 47 = .ok (.iload_n 2, 1) := by decide +kernel
theorem dX8_chooseAt_48 : decode cX8_chooseAt 48 = .ok (.iaload, 1) := by decide +kernel
theorem dX8_chooseAt_49 : decode cX8_chooseAt 49 = .ok (.dup2, 1) := by decide +kernel
theorem dX8_chooseAt_50 : decode cX8_chooseAt 50 = .ok (.iaload, 1) := by decide +kernel
theorem dX8_chooseAt_51 : decode cX8_chooseAt 51 = .ok (.iconst 1, 1) := by decide +kernel
theorem dX8_chooseAt_52 : decode cX8_chooseAt 52 = .ok (.iadd, 1) := by decide +kernel
theorem dX8_chooseAt_53 : decode cX8_chooseAt 53 = .ok (.iastore, 1) := by decide +kernel
theorem dX8_chooseAt_54 : decode cX8_chooseAt 54 = .ok (.goto 99, 3) := by decide +kernel
theorem dX8_chooseAt_57 : decode cX8_chooseAt 57 = .ok (.aload_n 1, 1) := by decide +kernel
theorem dX8_chooseAt_58 : decode cX8_chooseAt 58 = .ok (.getfield 51, 3) := by decide +kernel
theorem dX8_chooseAt_61 : decode cX8_chooseAt 61 = .ok (.iload_n 2, 1) := by decide +kernel
theorem dX8_chooseAt_62 : decode cX8_chooseAt 62 = .ok (.iaload, 1) := by decide +kernel
theorem dX8_chooseAt_63 : decode cX8_chooseAt 63 = .ok (.sipush 514, 3) := by decide +kernel
theorem dX8_chooseAt_66 : decode cX8_chooseAt 66 = .ok (.if_icmp .ne 38, 3) := by decide +kernel
theorem dX8_chooseAt_69 : decode cX8_chooseAt 69 = .ok (.aload 4, 2) := by decide +kernel
theorem dX8_chooseAt_71 : decode cX8_chooseAt 71 = .ok (.getfield 83, 3) := by decide +kernel
theorem dX8_chooseAt_74 : decode cX8_chooseAt 74 = .ok (.aload_n 1, 1) := by decide +kernel
theorem dX8_chooseAt_75 : decode cX8_chooseAt 75 = .ok (.getfield 92, 3) := by decide +kernel
theorem dX8_chooseAt_78 : decode cX8_chooseAt 78 = .ok (.iload_n 2, 1) := by decide +kernel
theorem dX8_chooseAt_79 : decode cX8_chooseAt 79 = .ok (.iaload, 1) := by decide +kernel
theorem dX8_chooseAt_80 : decode cX8_chooseAt 80 = .ok (.dup2, 1) := by decide +kernel
theorem dX8_chooseAt_81 : decode cX8_chooseAt 81 = .ok (.iaload, 1) := by decide +kernel
theorem dX8_chooseAt_82 : decode cX8_chooseAt 82 = .ok (.iconst 1, 1) := by decide +kernel
theorem dX8_chooseAt_83 : decode cX8_chooseAt 83 = .ok (.iadd, 1) := by decide +kernel
theorem dX8_chooseAt_84 : decode cX8_chooseAt 84 = .ok (.iastore, 1) := by decide +kernel
theorem dX8_chooseAt_85 : decode cX8_chooseAt 85 = .ok (.aload 4, 2) := by decide +kernel
theorem dX8_chooseAt_87 : decode cX8_chooseAt 87 = .ok (.getfield 86, 3) := by decide +kernel
theorem dX8_chooseAt_90 : decode cX8_chooseAt 90 = .ok (.aload_n 1, 1) := by decide +kernel
theorem dX8_chooseAt_91 : decode cX8_chooseAt 91 = .ok (.getfield 92, 3) := by decide +kernel
theorem dX8_chooseAt_94 : decode cX8_chooseAt 94 = .ok (.iload_n 2, 1) := by decide +kernel
theorem dX8_chooseAt_95 : decode cX8_chooseAt 95 = .ok (.iaload, 1) := by decide +kernel
theorem dX8_chooseAt_96 : decode cX8_chooseAt 96 = .ok (.dup2, 1) := by decide +kernel
theorem dX8_chooseAt_97 : decode cX8_chooseAt 97 = .ok (.iaload, 1) := by decide +kernel
theorem dX8_chooseAt_98 : decode cX8_chooseAt 98 = .ok (.iconst 1, 1) := by decide +kernel
theorem dX8_chooseAt_99 : decode cX8_chooseAt 99 = .ok (.iadd, 1) := by decide +kernel
theorem dX8_chooseAt_100 : decode cX8_chooseAt 100 = .ok (.iastore, 1) := by decide +kernel
theorem dX8_chooseAt_101 : decode cX8_chooseAt 101 = .ok (.goto 52, 3) := by decide +kernel
theorem dX8_chooseAt_104 : decode cX8_chooseAt 104 = .ok (.aload_n 1, 1) := by decide +kernel
theorem dX8_chooseAt_105 : decode cX8_chooseAt 105 = .ok (.getfield 51, 3) := by decide +kernel
theorem dX8_chooseAt_108 : decode cX8_chooseAt 108 = .ok (.iload 5, 2) := by decide +kernel
theorem dX8_chooseAt_110 : decode cX8_chooseAt 110 = .ok (.iaload, 1) := by decide +kernel
theorem dX8_chooseAt_111 : decode cX8_chooseAt 111 = .ok (.sipush 514, 3) := by decide +kernel
theorem dX8_chooseAt_114 : decode cX8_chooseAt 114 = .ok (.if_icmp .ne 39, 3) := by decide +kernel
theorem dX8_chooseAt_117 : decode cX8_chooseAt 117 = .ok (.aload_n 0, 1) := by decide +kernel
theorem dX8_chooseAt_118 : decode cX8_chooseAt 118 = .ok (.getfield 10, 3) := by decide +kernel
theorem dX8_chooseAt_121 : decode cX8_chooseAt 121 = .ok (.iload_n 3, 1) := by decide +kernel
theorem dX8_chooseAt_122 : decode cX8_chooseAt 122 = .ok (.iload 5, 2) := by decide +kernel
theorem dX8_chooseAt_124 : decode cX8_chooseAt 124 = .ok (.iadd, 1) := by decide +kernel
theorem dX8_chooseAt_125 : decode cX8_chooseAt 125 = .ok (.iconst 1, 1) := by decide +kernel
theorem dX8_chooseAt_126 : decode cX8_chooseAt 126 = .ok (.iadd, 1) := by decide +kernel
theorem dX8_chooseAt_127 : decode cX8_chooseAt 127 = .ok (.iaload, 1) := by decide +kernel
theorem dX8_chooseAt_128 : decode cX8_chooseAt 128 = .ok (.ifCond .le 25, 3) := by decide +kernel
theorem dX8_chooseAt_131 : decode cX8_chooseAt 131 = .ok (.aload 4, 2) := by decide +kernel
theorem dX8_chooseAt_133 : decode cX8_chooseAt 133 = .ok (.getfield 86, 3) := by decide +kernel
theorem dX8_chooseAt_136 : decode cX8_chooseAt 136 = .ok (.aload_n 1, 1) := by decide +kernel
theorem dX8_chooseAt_137 : decode cX8_chooseAt 137 = .ok (.getfield 92, 3) := by decide +kernel
theorem dX8_chooseAt_140 : decode cX8_chooseAt 140 = .ok (.iload 5, 2) := by decide +kernel
theorem dX8_chooseAt_142 : decode cX8_chooseAt 142 = .ok (.iaload, 1) := by decide +kernel
theorem dX8_chooseAt_143 : decode cX8_chooseAt 143 = .ok (.dup2, 1) := by decide +kernel
theorem dX8_chooseAt_144 : decode cX8_chooseAt 144 = .ok (.iaload, 1) := by decide +kernel
theorem dX8_chooseAt_145 : decode cX8_chooseAt 145 = .ok (.iconst 1, 1) := by decide +kernel
theorem dX8_chooseAt_146 : decode cX8_chooseAt 146 = .ok (.iadd, 1) := by decide +kernel
theorem dX8_chooseAt_147 : decode cX8_chooseAt 147 = .ok (.iastore, 1) := by decide +kernel
theorem dX8_chooseAt_148 : decode cX8_chooseAt 148 = .ok (.iload 5, 2) := by decide +kernel
theorem dX8_chooseAt_150 : decode cX8_chooseAt 150 = .ok (.iconst 1, 1) := by decide +kernel
theorem dX8_chooseAt_151 : decode cX8_chooseAt 151 = .ok (.iadd, 1) := by decide +kernel
theorem dX8_chooseAt_152 : decode cX8_chooseAt 152 = .ok (.ireturn, 1) := by decide +kernel
theorem dX8_chooseAt_153 : decode cX8_chooseAt 153 = .ok (.iload_n 2, 1) := by decide +kernel
theorem dX8_chooseAt_154 : decode cX8_chooseAt 154 = .ok (.iconst 1, 1) := by decide +kernel
theorem dX8_chooseAt_155 : decode cX8_chooseAt 155 = .ok (.iadd, 1) := by decide +kernel
theorem dX8_chooseAt_156 : decode cX8_chooseAt 156 = .ok (.ireturn, 1) := by decide +kernel
theorem dX8_goInward_0 : decode cX8_goInward 0 = .ok (.aload_n 1, 1) := by decide +kernel
theorem dX8_goInward_1 : decode cX8_goInward 1 = .ok (.getfield 51, 3) := by decide +kernel
theorem dX8_goInward_4 : decode cX8_goInward 4 = .ok (.iload_n 2, 1) := by decide +kernel
theorem dX8_goInward_5 : decode cX8_goInward 5 = .ok (.iaload, 1) := by decide +kernel
theorem dX8_goInward_6 : decode cX8_goInward 6 = .ok (.istore 7, 2) := by decide +kernel
theorem dX8_goInward_8 : decode cX8_goInward 8 = .ok (.iload 7, 2) := by decide +kernel
theorem dX8_goInward_10 : decode cX8_goInward 10 = .ok (.sipush 513, 3) := by decide +kernel
theorem dX8_goInward_13 : decode cX8_goInward 13 = .ok (.if_icmp .ne 38, 3) := by decide +kernel
theorem dX8_goInward_16 : decode cX8_goInward 16 = .ok (.aload_n 0, 1) := by decide +kernel
theorem dX8_goInward_17 : decode cX8_goInward 17 = .ok (.getfield 16, 3) := by decide +kernel
theorem dX8_goInward_20 : decode cX8_goInward 20 = .ok (.iload_n 2, 1) := by decide +kernel
theorem dX8_goInward_21 : decode cX8_goInward 21 = .ok (.aload_n 0, 1) := by decide +kernel
theorem dX8_goInward_22 : decode cX8_goInward 22 = .ok (.getfield 16, 3) := by decide +kernel
theorem dX8_goInward_25 : decode cX8_goInward 25 = .ok (.iload_n 2, 1) := by decide +kernel
theorem dX8_goInward_26 : decode cX8_goInward 26 = .ok (.iconst 1, 1) := by decide +kernel
theorem dX8_goInward_27 : decode cX8_goInward 27 = .ok (.iadd, 1) := by decide +kernel
theorem dX8_goInward_28 : decode cX8_goInward 28 = .ok (.iaload, 1) := by decide +kernel
theorem dX8_goInward_29 : decode cX8_goInward 29 = .ok (.aload_n 0, 1) := by decide +kernel
theorem dX8_goInward_30 : decode cX8_goInward 30 = .ok (.getfield 16, 3) := by decide +kernel
theorem dX8_goInward_33 : decode cX8_goInward 33 = .ok (.aload_n 1, 1) := by decide +kernel
theorem dX8_goInward_34 : decode cX8_goInward 34 = .ok (.getfield 54, 3) := by decide +kernel
theorem dX8_goInward_37 : decode cX8_goInward 37 = .ok (.iload_n 2, 1) := by decide +kernel
theorem dX8_goInward_38 : decode cX8_goInward 38 = .ok (.iaload, 1) := by decide +kernel
theorem dX8_goInward_39 : decode cX8_goInward 39 = .ok (.iconst 1, 1) := by decide +kernel
theorem dX8_goInward_40 : decode cX8_goInward 40 = .ok (.iadd, 1) := by decide +kernel
theorem dX8_goInward_41 : decode cX8_goInward 41 = .ok (.iaload, 1) := by decide +kernel
theorem dX8_goInward_42 : decode cX8_goInward 42 = .ok (.iload 6, 2) := by decide +kernel
theorem dX8_goInward_44 : decode cX8_goInward 44 = .ok (.invokestatic 57, 3) := by decide +kernel
theorem dX8_goInward_47 : decode cX8_goInward 47 = .ok (.iastore, 1) := by decide +kernel
theorem dX8_goInward_48 : decode cX8_goInward 48 = .ok (.goto 153, 3) := by decide +kernel
theorem dX8_goInward_51 : decode cX8_goInward 51 = .ok (.iload 7, 2) := by decide +kernel
theorem dX8_goInward_53 : decode cX8_goInward 53 = .ok (.sipush 514, 3) := by decide +kernel
theorem dX8_goInward_56 : decode cX8_goInward 56 = .ok (.if_icmp .ne 20, 3) := by decide +kernel
theorem dX8_goInward_59 : decode cX8_goInward 59 = .ok (.aload_n 0, 1) := by decide +kernel
theorem dX8_goInward_60 : decode cX8_goInward 60 = .ok (.getfield 16, 3) := by decide +kernel
theorem dX8_goInward_63 : decode cX8_goInward 63 = .ok (.iload_n 2, 1) := by decide +kernel
theorem dX8_goInward_64 : decode cX8_goInward 64 = .ok (.aload_n 0, 1) := by decide +kernel
theorem dX8_goInward_65 : decode cX8_goInward 65 = .ok (.getfield 16, 3) := by decide +kernel
theorem dX8_goInward_68 : decode cX8_goInward 68 = .ok (.iload_n 2, 1) := by decide +kernel
theorem dX8_goInward_69 : decode cX8_goInward 69 = .ok (.iconst 1, 1) := by decide +kernel
theorem dX8_goInward_70 : decode cX8_goInward 70 = .ok (.iadd, 1) := by decide +kernel
theorem dX8_goInward_71 : decode cX8_goInward 71 = .ok (.iaload, 1) := by decide +kernel
theorem dX8_goInward_72 : decode cX8_goInward 72 = .ok (.iastore, 1) := by decide +kernel
theorem dX8_goInward_73 : decode cX8_goInward 73 = .ok (.goto 128, 3) := by decide +kernel
theorem dX8_goInward_76 : decode cX8_goInward 76 = .ok (.iload 7, 2) := by decide +kernel
theorem dX8_goInward_78 : decode cX8_goInward 78 = .ok (.sipush 515, 3) := by decide +kernel
theorem dX8_goInward_81 : decode cX8_goInward 81 = .ok (.if_icmp .ne 19, 3) := by decide +kernel
theorem dX8_goInward_84 : decode cX8_goInward 84 = .ok (.aload_n 0, 1) := by decide +kernel
theorem dX8_goInward_85 : decode cX8_goInward 85 = .ok (.getfield 16, 3) := by decide +kernel
theorem dX8_goInward_88 : decode cX8_goInward 88 = .ok (.iload_n 2, 1) := by decide +kernel
theorem dX8_goInward_89 : decode cX8_goInward 89 = .ok (.iload 4, 2) := by decide +kernel
theorem dX8_goInward_91 : decode cX8_goInward 91 = .ok (.iload 6, 2) := by decide +kernel
theorem dX8_goInward_93 : decode cX8_goInward 93 = .ok (.invokestatic 29, 3) := by decide +kernel
theorem dX8_goInward_96 : decode cX8_goInward 96 = .ok (.iastore, 1) := by decide +kernel
theorem dX8_goInward_97 : decode cX8_goInward 97 = .ok (.goto 104, 3) := by decide +kernel
theorem dX8_goInward_100 : decode cX8_goInward 100 = .ok (.aload_n 1, 1) := by decide +kernel
theorem dX8_goInward_101 : decode cX8_goInward 101 = .ok (.getfield 19, 3) := by decide +kernel
theorem dX8_goInward_104 : decode cX8_goInward 104 = .ok (.iconst 1, 1) := by decide +kernel
theorem dX8_goInward_105 : decode cX8_goInward 105 = .ok (.iadd, 1) := by decide +kernel
theorem dX8_goInward_106 : decode cX8_goInward 106 = .ok (.istore 8, 2) := by decide +kernel
theorem dX8_goInward_108 : decode cX8_goInward 108 = .ok (.iload 4, 2) := by decide +kernel
theorem dX8_goInward_110 : decode cX8_goInward 110 = .ok (.iload 8, 2) := by decide +kernel
theorem dX8_goInward_112 : decode cX8_goInward 112 = .ok (.imul, 1) := by decide +kernel
theorem dX8_goInward_113 : decode cX8_goInward 113 = .ok (.iload_n 2, 1) := by decide +kernel
theorem dX8_goInward_114 : decode cX8_goInward 114 = .ok (.iadd, 1) := by decide +kernel
theorem dX8_goInward_115 : decode cX8_goInward 115 = .ok (.istore 9, 2) := by decide +kernel
theorem dX8_goInward_117 : decode cX8_goInward 117 = .ok (.iload 4, 2) := by decide +kernel
theorem dX8_goInward_119 : decode cX8_goInward 119 = .ok (.iload 6, 2) := by decide +kernel
theorem dX8_goInward_121 : decode cX8_goInward 121 = .ok (.invokestatic 29, 3) := by decide +kernel
theorem dX8_goInward_124 : decode cX8_goInward 124 = .ok (.istore 10, 2) := by decide +kernel
theorem dX8_goInward_126 : decode cX8_goInward 126 = .ok (.iload 4, 2) := by decide +kernel
theorem dX8_goInward_128 : decode cX8_goInward 128 = .ok (.iload 5, 2) := by decide +kernel
theorem dX8_goInward_130 : decode cX8_goInward 130 = .ok (.if_icmp .ge 54, 3) := by decide +kernel
theorem dX8_goInward_133 : decode cX8_goInward 133 = .ok (.iload 7, 2) := by decide +kernel
theorem dX8_goInward_135 : decode cX8_goInward 135 = .ok (.aload_n 3, 1) := by decide +kernel
theorem dX8_goInward_136 : decode cX8_goInward 136 = .ok (.iload 4, 2) := by decide +kernel
theorem dX8_goInward_138 : decode cX8_goInward 138 = .ok (.iaload, 1) := by decide +kernel
theorem dX8_goInward_139 : decode cX8_goInward 139 = .ok (.invokestatic 60, 3) := by decide +kernel
theorem dX8_goInward_142 : decode cX8_goInward 142 = .ok (.ifCond .eq 17, 3) := by decide +kernel
theorem dX8_goInward_145 : decode cX8_goInward 145 = .ok (.aload_n 0, 1) := by decide +kernel
theorem dX8_goInward_146 : decode cX8_goInward 146 = .ok (.getfield 10, 3) := by decide +kernel
theorem dX8_goInward_149 : decode cX8_goInward 149 = .ok (.iload 9, 2) := by decide +kernel
theorem dX8_goInward_151 : decode cX8_goInward 151 = .ok (.iload 8, 2) := by decide +kernel
theorem dX8_goInward_153 : decode cX8_goInward 153 = .ok (.iadd, 1) := by decide +kernel
theorem dX8_goInward_154 : decode cX8_goInward 154 = .ok (.iconst 1, 1) := by decide +kernel
theorem dX8_goInward_155 : decode cX8_goInward 155 = .ok (.iadd, 1) := by decide +kernel
theorem dX8_goInward_156 : decode cX8_goInward 156 = .ok (.iaload, 1) := by decide +kernel
theorem dX8_goInward_157 : decode cX8_goInward 157 = .ok (.istore 10, 2) := by decide +kernel
theorem dX8_goInward_159 : decode cX8_goInward 159 = .ok (.iload 6, 2) := by decide +kernel
theorem dX8_goInward_161 : decode cX8_goInward 161 = .ok (.iconst 1, 1) := by decide +kernel
theorem dX8_goInward_162 : decode cX8_goInward 162 = .ok (.if_icmp .ne 22, 3) := by decide +kernel
theorem dX8_goInward_165 : decode cX8_goInward 165 = .ok (.iload 10, 2) := by decide +kernel
theorem dX8_goInward_167 : decode cX8_goInward 167 = .ok (.aload_n 0, 1) := by decide +kernel
theorem dX8_goInward_168 : decode cX8_goInward 168 = .ok (.getfield 10, 3) := by decide +kernel
theorem dX8_goInward_171 : decode cX8_goInward 171 = .ok (.iload 9, 2) := by decide +kernel
theorem dX8_goInward_173 : decode cX8_goInward 173 = .ok (.iload 8, 2) := by decide +kernel
theorem dX8_goInward_175 : decode cX8_goInward 175 = .ok (.iadd, 1) := by decide +kernel
theorem dX8_goInward_176 : decode cX8_goInward 176 = .ok (.iaload, 1) := by decide +kernel
theorem dX8_goInward_177 : decode cX8_goInward 177 = .ok (.iconst 1, 1) := by decide +kernel
theorem dX8_goInward_178 : decode cX8_goInward 178 = .ok (.iadd, 1) := by decide +kernel
theorem dX8_goInward_179 : decode cX8_goInward 179 = .ok (.invokestatic 43, 3) := by decide +kernel
theorem dX8_goInward_182 : decode cX8_goInward 182 = .ok (.istore 10, 2) := by decide +kernel
theorem dX8_goInward_184 : decode cX8_goInward 184 = .ok (.aload_n 0, 1) := by decide +kernel
theorem dX8_goInward_185 : decode cX8_goInward 185 = .ok (.getfield 10, 3) := by decide +kernel
theorem dX8_goInward_188 : decode cX8_goInward 188 = .ok (.iload 9, 2) := by decide +kernel
theorem dX8_goInward_190 : decode cX8_goInward 190 = .ok (.iload 10, 2) := by decide +kernel
theorem dX8_goInward_192 : decode cX8_goInward 192 = .ok (.iastore, 1) := by decide +kernel
theorem dX8_goInward_193 : decode cX8_goInward 193 = .ok (.aload_n 0, 1) := by decide +kernel
theorem dX8_goInward_194 : decode cX8_goInward 194 = .ok (.getfield 16, 3) := by decide +kernel
theorem dX8_goInward_197 : decode cX8_goInward 197 = .ok (.iload_n 2, 1) := by decide +kernel
theorem dX8_goInward_198 : decode cX8_goInward 198 = .ok (.iload 10, 2) := by decide +kernel
theorem dX8_goInward_200 : decode cX8_goInward 200 = .ok (.iastore, 1) := by decide +kernel
theorem dX8_goInward_201 : decode cX8_goInward 201 = .ok (.return_, 1) := by decide +kernel
theorem dX8_goOn_0 : decode cX8_goOn 0 = .ok (.aload_n 1, 1) := by decide +kernel
theorem dX8_goOn_1 : decode cX8_goOn 1 = .ok (.getfield 51, 3) := by decide +kernel
theorem dX8_goOn_4 : decode cX8_goOn 4 = .ok (.iload_n 2, 1) := by decide +kernel
theorem dX8_goOn_5 : decode cX8_goOn 5 = .ok (.iaload, 1) := by decide +kernel
theorem dX8_goOn_6 : decode cX8_goOn 6 = .ok (.istore 5, 2) := by decide +kernel
theorem dX8_goOn_8 : decode cX8_goOn 8 = .ok (.iload 5, 2) := by decide +kernel
theorem dX8_goOn_10 : decode cX8_goOn 10 = .ok (.invokestatic 68, 3) := by decide +kernel
theorem dX8_goOn_13 : decode cX8_goOn 13 = .ok (.ifCond .eq 4, 3) := by decide +kernel
theorem dX8_goOn_16 : decode cX8_goOn 16 = .ok (.return_, 1) := by decide +kernel
theorem dX8_goOn_17 : decode cX8_goOn 17 = .ok (.aload_n 0, 1) := by decide +kernel
theorem dX8_goOn_18 : decode cX8_goOn 18 = .ok (.getfield 10, 3) := by decide +kernel
theorem dX8_goOn_21 : decode cX8_goOn 21 = .ok (.iload_n 3, 1) := by decide +kernel
theorem dX8_goOn_22 : decode cX8_goOn 22 = .ok (.iload_n 2, 1) := by decide +kernel
theorem dX8_goOn_23 : decode cX8_goOn 23 = .ok (.iadd, 1) := by decide +kernel
theorem dX8_goOn_24 : decode cX8_goOn 24 = .ok (.iconst 1, 1) := by decide +kernel
theorem dX8_goOn_25 : decode cX8_goOn 25 = .ok (.iadd, 1) := by decide +kernel
theorem dX8_goOn_26 : decode cX8_goOn 26 = .ok (.iaload, 1) := by decide +kernel
theorem dX8_goOn_27 : decode cX8_goOn 27 = .ok (.istore 6, 2) := by decide +kernel
theorem dX8_goOn_29 : decode cX8_goOn 29 = .ok (.iload 5, 2) := by decide +kernel
theorem dX8_goOn_31 : decode cX8_goOn 31 = .ok (.sipush 513, 3) := by decide +kernel
theorem dX8_goOn_34 : decode cX8_goOn 34 = .ok (.if_icmp .ne 30, 3) := by decide +kernel
theorem dX8_goOn_37 : decode cX8_goOn 37 = .ok (.iload 6, 2) := by decide +kernel
theorem dX8_goOn_39 : decode cX8_goOn 39 = .ok (.aload_n 0, 1) := by decide +kernel
theorem dX8_goOn_40 : decode cX8_goOn 40 = .ok (.getfield 10, 3) := by decide +kernel
theorem dX8_goOn_43 : decode cX8_goOn 43 = .ok (.iload_n 3, 1) := by decide +kernel
theorem dX8_goOn_44 : decode cX8_goOn 44 = .ok (.aload_n 1, 1) := by decide +kernel
theorem dX8_goOn_45 : decode cX8_goOn 45 = .ok (.getfield 54, 3) := by decide +kernel
theorem dX8_goOn_48 : decode cX8_goOn 48 = .ok (.iload_n 2, 1) := by decide +kernel
theorem dX8_goOn_49 : decode cX8_goOn 49 = .ok (.iaload, 1) := by decide +kernel
theorem dX8_goOn_50 : decode cX8_goOn 50 = .ok (.iadd, 1) := by decide +kernel
theorem dX8_goOn_51 : decode cX8_goOn 51 = .ok (.iconst 1, 1) := by decide +kernel
theorem dX8_goOn_52 : decode cX8_goOn 52 = .ok (.iadd, 1) := by decide +kernel
theorem dX8_goOn_53 : decode cX8_goOn 53 = .ok (.iaload, 1) := by decide +kernel
theorem dX8_goOn_54 : decode cX8_goOn 54 = .ok (.iload 4, 2) := by decide +kernel
theorem dX8_goOn_56 : decode cX8_goOn 56 = .ok (.invokestatic 57, 3) := by decide +kernel
theorem dX8_goOn_59 : decode cX8_goOn 59 = .ok (.istore 6, 2) := by decide +kernel
theorem dX8_goOn_61 : decode cX8_goOn 61 = .ok (.goto 50, 3) := by decide +kernel
theorem dX8_goOn_64 : decode cX8_goOn 64 = .ok (.iload 5, 2) := by decide +kernel
theorem dX8_goOn_66 : decode cX8_goOn 66 = .ok (.sipush 515, 3) := by decide +kernel
theorem dX8_goOn_69 : decode cX8_goOn 69 = .ok (.if_icmp .ne 42, 3) := by decide +kernel
theorem dX8_goOn_72 : decode cX8_goOn 72 = .ok (.aload_n 1, 1) := by decide +kernel
theorem dX8_goOn_73 : decode cX8_goOn 73 = .ok (.getfield 51, 3) := by decide +kernel
theorem dX8_goOn_76 : decode cX8_goOn 76 = .ok (.aload_n 1, 1) := by decide +kernel
theorem dX8_goOn_77 : decode cX8_goOn 77 = .ok (.getfield 54, 3) := by decide +kernel
theorem dX8_goOn_80 : decode cX8_goOn 80 = .ok (.iload_n 2, 1) := by decide +kernel
theorem dX8_goOn_81 : decode cX8_goOn 81 = .ok (.iaload, 1) := by decide +kernel
theorem dX8_goOn_82 : decode cX8_goOn 82 = .ok (.iaload, 1) := by decide +kernel
theorem dX8_goOn_83 : decode cX8_goOn 83 = .ok (.sipush 514, 3) := by decide +kernel
theorem dX8_goOn_86 : decode cX8_goOn 86 = .ok (.if_icmp .ne 25, 3) := by decide +kernel
theorem dX8_goOn_89 : decode cX8_goOn 89 = .ok (.aload_n 0, 1) := by decide +kernel
theorem dX8_goOn_90 : decode cX8_goOn 90 = .ok (.getfield 16, 3) := by decide +kernel
theorem dX8_goOn_93 : decode cX8_goOn 93 = .ok (.aload_n 1, 1) := by decide +kernel
theorem dX8_goOn_94 : decode cX8_goOn 94 = .ok (.getfield 54, 3) := by decide +kernel
theorem dX8_goOn_97 : decode cX8_goOn 97 = .ok (.iload_n 2, 1) := by decide +kernel
theorem dX8_goOn_98 : decode cX8_goOn 98 = .ok (.iaload, 1) := by decide +kernel
theorem dX8_goOn_99 : decode cX8_goOn 99 = .ok (.iconst 1, 1) := by decide +kernel
theorem dX8_goOn_100 : decode cX8_goOn 100 = .ok (.iadd, 1) := by decide +kernel
theorem dX8_goOn_101 : decode cX8_goOn 101 = .ok (.iaload, 1) := by decide +kernel
theorem dX8_goOn_102 : decode cX8_goOn 102 = .ok (.iload 6, 2) := by decide +kernel
theorem dX8_goOn_104 : decode cX8_goOn 104 = .ok (.iload 4, 2) := by decide +kernel
theorem dX8_goOn_106 : decode cX8_goOn 106 = .ok (.invokestatic 57, 3) := by decide +kernel
theorem dX8_goOn_109 : decode cX8_goOn 109 = .ok (.istore 6, 2) := by decide +kernel
theorem dX8_goOn_111 : decode cX8_goOn 111 = .ok (.aload_n 0, 1) := by decide +kernel
theorem dX8_goOn_112 : decode cX8_goOn 112 = .ok (.getfield 10, 3) := by decide +kernel
theorem dX8_goOn_115 : decode cX8_goOn 115 = .ok (.iload_n 3, 1) := by decide +kernel
theorem dX8_goOn_116 : decode cX8_goOn 116 = .ok (.iload_n 2, 1) := by decide +kernel
theorem dX8_goOn_117 : decode cX8_goOn 117 = .ok (.iadd, 1) := by decide +kernel
theorem dX8_goOn_118 : decode cX8_goOn 118 = .ok (.iload 6, 2) := by decide +kernel
theorem dX8_goOn_120 : decode cX8_goOn 120 = .ok (.iastore, 1) := by decide +kernel
theorem dX8_goOn_121 : decode cX8_goOn 121 = .ok (.return_, 1) := by decide +kernel
theorem dX8_goThrough_0 : decode cX8_goThrough 0 = .ok (.aload_n 1, 1) := by decide +kernel
theorem dX8_goThrough_1 : decode cX8_goThrough 1 = .ok (.getfield 19, 3) := by decide +kernel
theorem dX8_goThrough_4 : decode cX8_goThrough 4 = .ok (.iconst 1, 1) := by decide +kernel
theorem dX8_goThrough_5 : decode cX8_goThrough 5 = .ok (.iadd, 1) := by decide +kernel
theorem dX8_goThrough_6 : decode cX8_goThrough 6 = .ok (.istore 5, 2) := by decide +kernel
theorem dX8_goThrough_8 : decode cX8_goThrough 8 = .ok (.iload_n 3, 1) := by decide +kernel
theorem dX8_goThrough_9 : decode cX8_goThrough 9 = .ok (.istore 6, 2) := by decide +kernel
theorem dX8_goThrough_11 : decode cX8_goThrough 11 = .ok (.iload 6, 2) := by decide +kernel
theorem dX8_goThrough_13 : decode cX8_goThrough 13 = .ok (.ifCond .lt 114, 3) := by decide +kernel
theorem dX8_goThrough_16 : decode cX8_goThrough 16 = .ok (.iload 6, 2) := by decide +kernel
theorem dX8_goThrough_18 : decode cX8_goThrough 18 = .ok (.iload 5, 2) := by decide +kernel
theorem dX8_goThrough_20 : decode cX8_goThrough 20 = .ok (.imul, 1) := by decide +kernel
theorem dX8_goThrough_21 : decode cX8_goThrough 21 = .ok (.istore 7, 2) := by decide +kernel
theorem dX8_goThrough_23 : decode cX8_goThrough 23 = .ok (.aload_n 0, 1) := by decide +kernel
theorem dX8_goThrough_24 : decode cX8_goThrough 24 = .ok (.getfield 10, 3) := by decide +kernel
theorem dX8_goThrough_27 : decode cX8_goThrough 27 = .ok (.iload 7, 2) := by decide +kernel
theorem dX8_goThrough_29 : decode cX8_goThrough 29 = .ok (.aload_n 1, 1) := by decide +kernel
theorem dX8_goThrough_30 : decode cX8_goThrough 30 = .ok (.getfield 19, 3) := by decide +kernel
theorem dX8_goThrough_33 : decode cX8_goThrough 33 = .ok (.iadd, 1) := by decide +kernel
theorem dX8_goThrough_34 : decode cX8_goThrough 34 = .ok (.iload 6, 2) := by decide +kernel
theorem dX8_goThrough_36 : decode cX8_goThrough 36 = .ok (.iload_n 3, 1) := by decide +kernel
theorem dX8_goThrough_37 : decode cX8_goThrough 37 = .ok (.iload 4, 2) := by decide +kernel
theorem dX8_goThrough_39 : decode cX8_goThrough 39 = .ok (.invokestatic 25, 3) := by decide +kernel
theorem dX8_goThrough_42 : decode cX8_goThrough 42 = .ok (.iastore, 1) := by decide +kernel
theorem dX8_goThrough_43 : decode cX8_goThrough 43 = .ok (.aload_n 0, 1) := by decide +kernel
theorem dX8_goThrough_44 : decode cX8_goThrough 44 = .ok (.getfield 16, 3) := by decide +kernel
theorem dX8_goThrough_47 : decode cX8_goThrough 47 = .ok (.aload_n 1, 1) := by decide +kernel
theorem dX8_goThrough_48 : decode cX8_goThrough 48 = .ok (.getfield 19, 3) := by decide +kernel
theorem dX8_goThrough_51 : decode cX8_goThrough 51 = .ok (.iload 6, 2) := by decide +kernel
theorem dX8_goThrough_53 : decode cX8_goThrough 53 = .ok (.iload 4, 2) := by decide +kernel
theorem dX8_goThrough_55 : decode cX8_goThrough 55 = .ok (.invokestatic 29, 3) := by decide +kernel
theorem dX8_goThrough_58 : decode cX8_goThrough 58 = .ok (.iastore, 1) := by decide +kernel
theorem dX8_goThrough_59 : decode cX8_goThrough 59 = .ok (.aload_n 1, 1) := by decide +kernel
theorem dX8_goThrough_60 : decode cX8_goThrough 60 = .ok (.getfield 19, 3) := by decide +kernel
theorem dX8_goThrough_63 : decode cX8_goThrough 63 = .ok (.iconst 1, 1) := by decide +kernel
theorem dX8_goThrough_64 : decode cX8_goThrough 64 = .ok (.isub, 1) := by decide +kernel
theorem dX8_goThrough_65 : decode cX8_goThrough 65 = .ok (.istore 8, 2) := by decide +kernel
theorem dX8_goThrough_67 : decode cX8_goThrough 67 = .ok (.iload 8, 2) := by decide +kernel
theorem dX8_goThrough_69 : decode cX8_goThrough 69 = .ok (.ifCond .lt 22, 3) := by decide +kernel
theorem dX8_goThrough_72 : decode cX8_goThrough 72 = .ok (.aload_n 0, 1) := by decide +kernel
theorem dX8_goThrough_73 : decode cX8_goThrough 73 = .ok (.aload_n 1, 1) := by decide +kernel
theorem dX8_goThrough_74 : decode cX8_goThrough 74 = .ok (.iload 8, 2) := by decide +kernel
theorem dX8_goThrough_76 : decode cX8_goThrough 76 = .ok (.aload_n 2, 1) := by decide +kernel
theorem dX8_goThrough_77 : decode cX8_goThrough 77 = .ok (.iload 6, 2) := by decide +kernel
theorem dX8_goThrough_79 : decode cX8_goThrough 79 = .ok (.iload_n 3, 1) := by decide +kernel
theorem dX8_goThrough_80 : decode cX8_goThrough 80 = .ok (.iload 4, 2) := by decide +kernel
theorem dX8_goThrough_82 : decode cX8_goThrough 82 = .ok (.invokevirtual 33, 3) := by decide +kernel
theorem dX8_goThrough_85 : decode cX8_goThrough 85 = .ok (.iinc 8 (-1), 3) := by decide +kernel
theorem dX8_goThrough_88 : decode cX8_goThrough 88 = .ok (.goto (-21), 3) := by decide +kernel
theorem dX8_goThrough_91 : decode cX8_goThrough 91 = .ok (.aload_n 1, 1) := by decide +kernel
theorem dX8_goThrough_92 : decode cX8_goThrough 92 = .ok (.getfield 19, 3) := by decide +kernel
theorem dX8_goThrough_95 : decode cX8_goThrough 95 = .ok (.iconst 1, 1) := by decide +kernel
theorem dX8_goThrough_96 : decode cX8_goThrough 96 = .ok (.isub, 1) := by decide +kernel
theorem dX8_goThrough_97 : decode cX8_goThrough 97 = .ok (.istore 8, 2) := by decide +kernel
theorem dX8_goThrough_99 : decode cX8_goThrough 99 = .ok (.iload 8, 2) := by decide +kernel
theorem dX8_goThrough_101 : decode cX8_goThrough 101 = .ok (.ifCond .lt 20, 3) := by decide +kernel
theorem dX8_goThrough_104 : decode cX8_goThrough 104 = .ok (.aload_n 0, 1) := by decide +kernel
theorem dX8_goThrough_105 : decode cX8_goThrough 105 = .ok (.aload_n 1, 1) := by decide +kernel
theorem dX8_goThrough_106 : decode cX8_goThrough 106 = .ok (.iload 8, 2) := by decide +kernel
theorem dX8_goThrough_108 : decode cX8_goThrough 108 = .ok (.iload 7, 2) := by decide +kernel
theorem dX8_goThrough_110 : decode cX8_goThrough 110 = .ok (.iload 4, 2) := by decide +kernel
theorem dX8_goThrough_112 : decode cX8_goThrough 112 = .ok (.invokevirtual 37, 3) := by decide +kernel
theorem dX8_goThrough_115 : decode cX8_goThrough 115 = .ok (.iinc 8 (-1), 3) := by decide +kernel
theorem dX8_goThrough_118 : decode cX8_goThrough 118 = .ok (.goto (-19), 3) := by decide +kernel
theorem dX8_goThrough_121 : decode cX8_goThrough 121 = .ok (.iinc 6 (-1), 3) := by decide +kernel
theorem dX8_goThrough_124 : decode cX8_goThrough 124 = .ok (.goto (-113), 3) := by decide +kernel
theorem dX8_goThrough_127 : decode cX8_goThrough 127 = .ok (.aload_n 0, 1) := by decide +kernel
theorem dX8_goThrough_128 : decode cX8_goThrough 128 = .ok (.getfield 10, 3) := by decide +kernel
theorem dX8_goThrough_131 : decode cX8_goThrough 131 = .ok (.iconst 0, 1) := by decide +kernel
theorem dX8_goThrough_132 : decode cX8_goThrough 132 = .ok (.iaload, 1) := by decide +kernel
theorem dX8_goThrough_133 : decode cX8_goThrough 133 = .ok (.ireturn, 1) := by decide +kernel
theorem dX8_takes_0 : decode cX8_takes 0 = .ok (.iload_n 0, 1) := by decide +kernel
theorem dX8_takes_1 : decode cX8_takes 1 = .ok (.iload_n 1, 1) := by decide +kernel
theorem dX8_takes_2 : decode cX8_takes 2 = .ok (.if_icmp .eq 24, 3) := by decide +kernel
theorem dX8_takes_5 : decode cX8_takes 5 = .ok (.iload_n 1, 1) := by decide +kernel
theorem dX8_takes_6 : decode cX8_takes 6 = .ok (.sipush 516, 3) := by decide +kernel
theorem dX8_takes_9 : decode cX8_takes 9 = .ok (.if_icmp .eq 17, 3) := by decide +kernel
theorem dX8_takes_12 : decode cX8_takes 12 = .ok (.iload_n 0, 1) := by decide +kernel
theorem dX8_takes_13 : decode cX8_takes 13 = .ok (.sipush 512, 3) := by decide +kernel
theorem dX8_takes_16 : decode cX8_takes 16 = .ok (.if_icmp .ne 14, 3) := by decide +kernel
theorem dX8_takes_19 : decode cX8_takes 19 = .ok (.iload_n 1, 1) := by decide +kernel
theorem dX8_takes_20 : decode cX8_takes 20 = .ok (.invokestatic 64, 3) := by decide +kernel
theorem dX8_takes_23 : decode cX8_takes 23 = .ok (.ifCond .eq 7, 3) := by decide +kernel
theorem dX8_takes_26 : decode cX8_takes 26 = .ok (.iconst 1, 1) := by decide +kernel
theorem dX8_takes_27 : decode cX8_takes 27 = .ok (.goto 4, 3) := by decide +kernel
theorem dX8_takes_30 : decode cX8_takes 30 = .ok (.iconst 0, 1) := by decide +kernel
theorem dX8_takes_31 : decode cX8_takes 31 = .ok (.ireturn, 1) := by decide +kernel
theorem dX8_walk_0 : decode cX8_walk 0 = .ok (.aload 4, 2) := by decide +kernel
theorem dX8_walk_2 : decode cX8_walk 2 = .ok (.aload_n 0, 1) := by decide +kernel
theorem dX8_walk_3 : decode cX8_walk 3 = .ok (.aload_n 1, 1) := by decide +kernel
theorem dX8_walk_4 : decode cX8_walk 4 = .ok (.aload_n 2, 1) := by decide +kernel
theorem dX8_walk_5 : decode cX8_walk 5 = .ok (.iload_n 3, 1) := by decide +kernel
theorem dX8_walk_6 : decode cX8_walk 6 = .ok (.iconst 0, 1) := by decide +kernel
theorem dX8_walk_7 : decode cX8_walk 7 = .ok (.invokevirtual 71, 3) := by decide +kernel
theorem dX8_walk_10 : decode cX8_walk 10 = .ok (.putfield 75, 3) := by decide +kernel
theorem dX8_walk_13 : decode cX8_walk 13 = .ok (.iconst 0, 1) := by decide +kernel
theorem dX8_walk_14 : decode cX8_walk 14 = .ok (.istore 5, 2) := by decide +kernel
theorem dX8_walk_16 : decode cX8_walk 16 = .ok (.iload 5, 2) := by decide +kernel
theorem dX8_walk_18 : decode cX8_walk 18 = .ok (.aload_n 1, 1) := by decide +kernel
theorem dX8_walk_19 : decode cX8_walk 19 = .ok (.getfield 80, 3) := by decide +kernel
theorem dX8_walk_22 : decode cX8_walk 22 = .ok (.if_icmp .ge 27, 3) := by decide +kernel
theorem dX8_walk_25 : decode cX8_walk 25 = .ok (.aload 4, 2) := by decide +kernel
theorem dX8_walk_27 : decode cX8_walk 27 = .ok (.getfield 83, 3) := by decide +kernel
theorem dX8_walk_30 : decode cX8_walk 30 = .ok (.iload 5, 2) := by decide +kernel
theorem dX8_walk_32 : decode cX8_walk 32 = .ok (.iconst 0, 1) := by decide +kernel
theorem dX8_walk_33 : decode cX8_walk 33 = .ok (.iastore, 1) := by decide +kernel
theorem dX8_walk_34 : decode cX8_walk 34 = .ok (.aload 4, 2) := by decide +kernel
theorem dX8_walk_36 : decode cX8_walk 36 = .ok (.getfield 86, 3) := by decide +kernel
theorem dX8_walk_39 : decode cX8_walk 39 = .ok (.iload 5, 2) := by decide +kernel
theorem dX8_walk_41 : decode cX8_walk 41 = .ok (.iconst 0, 1) := by decide +kernel
theorem dX8_walk_42 : decode cX8_walk 42 = .ok (.iastore, 1) := by decide +kernel
theorem dX8_walk_43 : decode cX8_walk 43 = .ok (.iinc 5 1, 3) := by decide +kernel
theorem dX8_walk_46 : decode cX8_walk 46 = .ok (.goto (-30), 3) := by decide +kernel
theorem dX8_walk_49 : decode cX8_walk 49 = .ok (.aload 4, 2) := by decide +kernel
theorem dX8_walk_51 : decode cX8_walk 51 = .ok (.getfield 75, 3) := by decide +kernel
theorem dX8_walk_54 : decode cX8_walk 54 = .ok (.ifCond .ne 4, 3) := by decide +kernel
theorem dX8_walk_57 : decode cX8_walk 57 = .ok (.return_, 1) := by decide +kernel
theorem dX8_walk_58 : decode cX8_walk 58 = .ok (.aload_n 1, 1) := by decide +kernel
theorem dX8_walk_59 : decode cX8_walk 59 = .ok (.getfield 19, 3) := by decide +kernel
theorem dX8_walk_62 : decode cX8_walk 62 = .ok (.iconst 1, 1) := by decide +kernel
theorem dX8_walk_63 : decode cX8_walk 63 = .ok (.iadd, 1) := by decide +kernel
theorem dX8_walk_64 : decode cX8_walk 64 = .ok (.istore 5, 2) := by decide +kernel
theorem dX8_walk_66 : decode cX8_walk 66 = .ok (.iconst 0, 1) := by decide +kernel
theorem dX8_walk_67 : decode cX8_walk 67 = .ok (.istore 6, 2) := by decide +kernel
theorem dX8_walk_69 : decode cX8_walk 69 = .ok (.iconst 0, 1) := by decide +kernel
theorem dX8_walk_70 : decode cX8_walk 70 = .ok (.istore 7, 2) := by decide +kernel
theorem dX8_walk_72 : decode cX8_walk 72 = .ok (.iconst 0, 1) := by decide +kernel
theorem dX8_walk_73 : decode cX8_walk 73 = .ok (.istore 8, 2) := by decide +kernel
theorem dX8_walk_75 : decode cX8_walk 75 = .ok (.iload 8, 2) := by decide +kernel
theorem dX8_walk_77 : decode cX8_walk 77 = .ok (.ldc 41, 2) := by decide +kernel
theorem dX8_walk_79 : decode cX8_walk 79 = .ok (.if_icmp .ge 101, 3) := by decide +kernel
theorem dX8_walk_82 : decode cX8_walk 82 = .ok (.iload 6, 2) := by decide +kernel
theorem dX8_walk_84 : decode cX8_walk 84 = .ok (.aload_n 1, 1) := by decide +kernel
theorem dX8_walk_85 : decode cX8_walk 85 = .ok (.getfield 19, 3) := by decide +kernel
theorem dX8_walk_88 : decode cX8_walk 88 = .ok (.if_icmp .ge 92, 3) := by decide +kernel
theorem dX8_walk_91 : decode cX8_walk 91 = .ok (.aload_n 1, 1) := by decide +kernel
theorem dX8_walk_92 : decode cX8_walk 92 = .ok (.getfield 51, 3) := by decide +kernel
theorem dX8_walk_95 : decode cX8_walk 95 = .ok (.iload 6, 2) := by decide +kernel
theorem dX8_walk_97 : decode cX8_walk 97 = .ok (.iaload, 1) := by decide +kernel
theorem dX8_walk_98 : decode cX8_walk 98 = .ok (.invokestatic 68, 3) := by decide +kernel
theorem dX8_walk_101 : decode cX8_walk 101 = .ok (.ifCond .eq 57, 3) := by decide +kernel
theorem dX8_walk_104 : decode cX8_walk 104 = .ok (.iload 7, 2) := by decide +kernel
theorem dX8_walk_106 : decode cX8_walk 106 = .ok (.iload_n 3, 1) := by decide +kernel
theorem dX8_walk_107 : decode cX8_walk 107 = .ok (.if_icmp .ge 18, 3) := by decide +kernel
theorem dX8_walk_110 : decode cX8_walk 110 = .ok (.aload 4, 2) := by decide +kernel
theorem dX8_walk_112 : decode cX8_walk 112 = .ok (.getfield 89, 3) := by decide +kernel
theorem dX8_walk_115 : decode cX8_walk 115 = .ok (.iload 7, 2) := by decide +kernel
theorem dX8_walk_117 : decode cX8_walk 117 = .ok (.aload_n 1, 1) := by decide +kernel
theorem dX8_walk_118 : decode cX8_walk 118 = .ok (.getfield 92, 3) := by decide +kernel
theorem dX8_walk_121 : decode cX8_walk 121 = .ok (.iload 6, 2) := by decide +kernel
theorem dX8_walk_123 : decode cX8_walk 123 = .ok (.iaload, 1) := by decide +kernel
theorem dX8_walk_124 : decode cX8_walk 124 = .ok (.iastore, 1) := by decide +kernel
theorem dX8_walk_125 : decode cX8_walk 125 = .ok (.aload 4, 2) := by decide +kernel
theorem dX8_walk_127 : decode cX8_walk 127 = .ok (.getfield 83, 3) := by decide +kernel
theorem dX8_walk_130 : decode cX8_walk 130 = .ok (.aload_n 1, 1) := by decide +kernel
theorem dX8_walk_131 : decode cX8_walk 131 = .ok (.getfield 92, 3) := by decide +kernel
theorem dX8_walk_134 : decode cX8_walk 134 = .ok (.iload 6, 2) := by decide +kernel
theorem dX8_walk_136 : decode cX8_walk 136 = .ok (.iaload, 1) := by decide +kernel
theorem dX8_walk_137 : decode cX8_walk 137 = .ok (.dup2, 1) := by decide +kernel
theorem dX8_walk_138 : decode cX8_walk 138 = .ok (.iaload, 1) := by decide +kernel
theorem dX8_walk_139 : decode cX8_walk 139 = .ok (.iconst 1, 1) := by decide +kernel
theorem dX8_walk_140 : decode cX8_walk 140 = .ok (.iadd, 1) := by decide +kernel
theorem dX8_walk_141 : decode cX8_walk 141 = .ok (.iastore, 1) := by decide +kernel
theorem dX8_walk_142 : decode cX8_walk 142 = .ok (.iload 7, 2) := by decide +kernel
theorem dX8_walk_144 : decode cX8_walk 144 = .ok (.iconst 1, 1) := by decide +kernel
theorem dX8_walk_145 : decode cX8_walk 145 = .ok (.iadd, 1) := by decide +kernel
theorem dX8_walk_146 : decode cX8_walk 146 = .ok (.iload_n 3, 1) := by decide +kernel
theorem dX8_walk_147 : decode cX8_walk 147 = .ok (.invokestatic 43, 3) := by decide +kernel
theorem dX8_walk_150 : decode cX8_walk 150 = .ok (.istore 7, 2) := by decide +kernel
theorem dX8_walk_152 : decode cX8_walk 152 = .ok (.iinc 6 1, 3) := by decide +kernel
theorem dX8_walk_155 : decode cX8_walk 155 = .ok (.goto 19, 3) := by decide +kernel
theorem dX8_walk_158 : decode cX8_walk 158 = .ok (.aload_n 0, 1) := by decide +kernel
theorem dX8_walk_159 : decode cX8_walk 159 = .ok (.aload_n 1, 1) := by decide +kernel
theorem dX8_walk_160 : decode cX8_walk 160 = .ok (.iload 6, 2) := by decide +kernel
theorem dX8_walk_162 : decode cX8_walk 162 = .ok (.iload 7, 2) := by decide +kernel
theorem dX8_walk_164 : decode cX8_walk 164 = .ok (.iload 5, 2) := by decide +kernel
theorem dX8_walk_166 : decode cX8_walk 166 = .ok (.imul, 1) := by decide +kernel
theorem dX8_walk_167 : decode cX8_walk 167 = .ok (.aload 4, 2) := by decide +kernel
theorem dX8_walk_169 : decode cX8_walk 169 = .ok (.invokevirtual 95, 3) := by decide +kernel
theorem dX8_walk_172 : decode cX8_walk 172 = .ok (.istore 6, 2) := by decide +kernel
theorem dX8_walk_174 : decode cX8_walk 174 = .ok (.iinc 8 1, 3) := by decide +kernel
theorem dX8_walk_177 : decode cX8_walk 177 = .ok (.goto (-102), 3) := by decide +kernel
theorem dX8_walk_180 : decode cX8_walk 180 = .ok (.return_, 1) := by decide +kernel
/-! the walker: it goes through -/
def aB (μ : va_M) : Prop := ∀ j, (0 ≤ μ 46 j ∧ μ 46 j ≤ 1000000000) ∧ 0 ≤ μ 47 j ∧ μ 47 j ≤ 1000000000
theorem aB_uz {μ : va_M} {a b : Nat} {v : Int} (h : aB μ) (hv : (a = 46 ∨ a = 47) → 0 ≤ v ∧ v ≤ 1000000000) : aB (uz μ a b v) := fun j => by
  have h1 := h j
  constructor
  · by_cases h9 : a = 46 ∧ b = j
    · obtain ⟨rfl, rfl⟩ := h9; rw [uz_s]; exact hv (Or.inl rfl)
    · rw [uz_n (by omega)]; exact h1.1
  · by_cases h9 : a = 47 ∧ b = j
    · obtain ⟨rfl, rfl⟩ := h9; rw [uz_s]; exact hv (Or.inr rfl)
    · rw [uz_n (by omega)]; exact h1.2
theorem aB_fr {μ u : va_M} (h : aB μ) (hf : ∀ x y, x = 46 ∨ x = 47 → u x y = μ x y) : aB u := fun j => by rw [hf _ _ (Or.inl rfl), hf _ _ (Or.inr rfl)]; exact h j
theorem nb_b {r k hw : Int} (h : r = if hw = 0 then 0 else if hw = 1 then 1000000 else k) (hk : 0 ≤ k ∧ k ≤ 60) : 0 ≤ r ∧ r ≤ 1000000 := by
  split at h
  · (first | ((try clear hk); omega) | omega)
  · split at h <;> omega
theorem at_b {r k n hw : Int} (h : r = if hw = 0 then (if k = n then 1 else 0) else if hw = 1 then n - k else k) (hk : 0 ≤ k ∧ k ≤ n ∧ n ≤ 60) : 0 ≤ r ∧ r ≤ 60 := by
  split at h
  · split at h <;> (first | ((try clear hk); omega) | omega)
  · split at h <;> omega
theorem ei_b {r v w hw : Int} (h : r = if hw = 0 then min (v + w) 1000000000 else if hw = 1 then min v w else max v w) (hv : 0 ≤ v ∧ v ≤ 1000000000 ∧ 0 ≤ w ∧ w ≤ 1000000000) : 0 ≤ r ∧ r ≤ 1000000000 := by
  split at h
  · omega
  · split at h <;> omega
theorem mulB (k s : Int) (h1 : 0 ≤ k) (h2 : k ≤ 60) (h3 : 1 ≤ s) (h4 : s ≤ 1101) : 0 ≤ k * s ∧ k * s ≤ 66060 ∧ (k < 60 → k * s + s ≤ 66060) := by
  have a1 := Int.mul_nonneg h1 (show 0 ≤ s by (first | ((try clear a1); (try clear h2); (try clear h1); omega) | omega))
  have a2 := Int.mul_le_mul_of_nonneg_right h2 (show 0 ≤ s by (first | ((try clear a2); (try clear a1); (try clear h2); (try clear h1); omega) | omega))
  refine ⟨a1, by (first | ((try clear a1); (try clear h2); (try clear h1); omega) | omega), fun h => ?_⟩
  have a3 := Int.mul_le_mul_of_nonneg_right (show k + 1 ≤ 60 by (first | ((try clear a3); (try clear a2); (try clear a1); (try clear h4); (try clear h3); omega) | omega)) (show 0 ≤ s by (first | ((try clear a3); (try clear h); (try clear a2); (try clear a1); (try clear h2); (try clear h1); omega) | omega))
  rw [Int.add_mul, Int.one_mul] at a3
  (first | ((try clear h); (try clear h2); (try clear h1); omega) | omega)
theorem rowB_f {q rm : Nat} (h : rowB q rm) : q + 6 ≤ 18 ∨ 80 ≤ q := by
  rcases h with ⟨h1, h2⟩ | ⟨h1, h2⟩ | ⟨i, h1, h2, h3⟩ | ⟨i, h1, h2, h3⟩ <;> (first | ((try clear h3); omega) | omega)
set_option maxHeartbeats 4000000 in
set_option maxRecDepth 100000 in
theorem s_Wtakes (l : Launch) (dC : Nat → ClassId) (dI : Nat → Nat → Nat) (cI cZ cII cIII : ClassId) (h0 sz : Nat) (μ : va_M) (sg : Int) (cd : Int) (h_s : inR sg) (h_c : inR cd) : Met l yX8_takes (Cond.code yX8_takes cX8_takes 2 (some .boolean) :: wsG) ({ frames := 2, cells := 0, slots := 0, locals := 34 } : Room) (va_Pc [.int (iZ (sg)), .int (iZ (cd))] (fun U => U.heap.size = sz ∧ va_P (dC, dI) vwCl (fw (sE cI cZ cII cIII h0) h0 233 μ) U.heap ∧ va_K (dC, dI) vwCl (sT cI cZ cII cIII) U ∧ xM U)) (va_Qi (fun (r9 : Int32) (u : va_M × Int) => r9 = iZ u.2 ∧ (fun (u : va_M) (r : Int) => u = μ ∧ (r = 0 ∨ r = 1)) u.1 u.2) (fun u t => va_P (dC, dI) vwCl (fw (sE cI cZ cII cIII h0) h0 233 u.1) t.heap ∧ va_K (dC, dI) vwCl (sT cI cZ cII cIII) t) (fA h0 233 sz)) 0 0 (fA h0 233 sz) := by
  refine Met.ofW (cc := cX8_takes) (maxL := 2) (ret := (some .boolean)) (by decide) rfl ?_
  intro p e s m args below meth c s₁ B hml hv
  obtain ⟨rfl, hsz, hP, hK, hM⟩ := hv
  have hx := B.exec
  have hb := B.bytes
  have hr := B.returns
  have hts : ∀ w ∈ wsG, w.before _ s = true := hG_of (atoms_spec (ws := (Cond.code yX8_takes cX8_takes 2 (some .boolean) :: wsG)) B.pre)
  have hown : s.vm.findClass RX8 = some m.cls := findClass_of_methodNamed B.named
  have hlocks := B.notSynchronized
  subst hsz
  have hS : va_S (fA h0 233 s.heap.size) s.heap s.heap [] := va_S.rf
  have hl := lv_entry ([.int (iZ (sg)), .int (iZ (cd))]) (n := 2) (Nat.le_of_ble_eq_true rfl)
  rw [lg_entry_eq]
  generalize (lg_sl ([.int (iZ (sg)), .int (iZ (cd))]) ++ List.replicate (2 - (lg_sl ([.int (iZ (sg)), .int (iZ (cd))])).length) Slot.unset).toArray = ls at hl ⊢
  have hl : lv_has ls 2 [(0, .int (iZ (sg))), (1, .int (iZ (cd)))] := hl
  refine lv_iload_n hx hb dX8_takes_0 rfl (lv_at hl 0 rfl) ?_
  refine lv_iload_n hx hb dX8_takes_1 rfl (lv_at hl 1 rfl) ?_
  refine fz_icmp_eq (tgt := 26) (by constructor <;> (first | ((try clear hsz); (try clear s₁); omega) | omega)) (by constructor <;> (first | ((try clear hsz); (try clear s₁); omega) | omega)) hx hb dX8_takes_2 (by decide) (fun c2_ => ?_) (fun c2_ => ?_)
  · refine lv_iconst (v := iZ 1) hx hb dX8_takes_26 rfl ?_
    refine lv_goto (tgt := 31) hx hb dX8_takes_27 (by decide) ?_
    exact W.zret (v := iZ (1)) hx hb hr (by decide +kernel) (fun t9 ht9 hW9 => ⟨⟨iZ (1), (μ, 1), rfl, ⟨rfl, (by
                dsimp only
                exact ⟨rfl, by (first | ((try clear c2_); (try clear hsz); (try clear s₁); omega) | omega)⟩)⟩, by rw [ht9]; exact hP, va_K.moved hW9.alike hK⟩, hS.F ht9⟩) hS.2.2 dX8_takes_31
  · refine lv_iload_n hx hb dX8_takes_5 rfl (lv_at hl 1 rfl) ?_
    refine lv_sipush (v := iZ 516) hx hb dX8_takes_6 rfl ?_
    refine fz_icmp_eq (tgt := 26) (by constructor <;> (first | ((try clear c2_); (try clear hsz); (try clear s₁); omega) | omega)) (by decide) hx hb dX8_takes_9 (by decide) (fun c9_ => ?_) (fun c9_ => ?_)
    · refine lv_iconst (v := iZ 1) hx hb dX8_takes_26 rfl ?_
      refine lv_goto (tgt := 31) hx hb dX8_takes_27 (by decide) ?_
      exact W.zret (v := iZ (1)) hx hb hr (by decide +kernel) (fun t9 ht9 hW9 => ⟨⟨iZ (1), (μ, 1), rfl, ⟨rfl, (by
                    dsimp only
                    exact ⟨rfl, by (first | ((try clear c9_); (try clear c2_); (try clear hsz); (try clear s₁); omega) | omega)⟩)⟩, by rw [ht9]; exact hP, va_K.moved hW9.alike hK⟩, hS.F ht9⟩) hS.2.2 dX8_takes_31
    · refine lv_iload_n hx hb dX8_takes_12 rfl (lv_at hl 0 rfl) ?_
      refine lv_sipush (v := iZ 512) hx hb dX8_takes_13 rfl ?_
      refine fz_icmp_ne (tgt := 30) (by constructor <;> (first | ((try clear c9_); (try clear c2_); (try clear hsz); (try clear s₁); omega) | omega)) (by decide) hx hb dX8_takes_16 (by decide) (fun c16_ => ?_) (fun c16_ => ?_)
      · refine lv_iconst (v := iZ 0) hx hb dX8_takes_30 rfl ?_
        exact W.zret (v := iZ (0)) hx hb hr (by decide +kernel) (fun t9 ht9 hW9 => ⟨⟨iZ (0), (μ, 0), rfl, ⟨rfl, (by
                        dsimp only
                        exact ⟨rfl, by (first | ((try clear c16_); (try clear c9_); (try clear c2_); (try clear hsz); (try clear s₁); omega) | omega)⟩)⟩, by rw [ht9]; exact hP, va_K.moved hW9.alike hK⟩, hS.F ht9⟩) hS.2.2 dX8_takes_31
      · refine lv_iload_n hx hb dX8_takes_19 rfl (lv_at hl 1 rfl) ?_
        refine va_calli (va_runSN (As := [.int (iZ (cd))]) (rest := []) ⟨hx, hb, hml, hown, hts⟩ (s_isWord l dC dI cI cZ cII cIII h0 s.heap.size μ (cd) (by first | assumption | omega | exact ⟨by omega, by omega⟩)) ⟨va_cnB (host := "PageSkeleton") 1 hts (gI_G k569) rfl rfl rfl (xM_nest hM 12 rfl) (hts _ k1) (by decide +kernel) ⟨Nat.le_of_ble_eq_true rfl, Nat.le_of_ble_eq_true rfl⟩, hts _ k568, trivial⟩ ⟨fun a U g mk q => by obtain ⟨q0, q1, qP, qK, qM⟩ := q; exact ⟨q0, q1, qP, va_K.moved (u := U) (U := U.calling g mk a) (Vm.Alike.refl U.vm) qK, qM⟩, fun U hU hW => ⟨rfl, by rw [hU], by rw [hU]; exact hP, va_K.moved hW.alike hK, xM_warm hW hM⟩⟩ rfl rfl hl.1 rfl (lv_room (Nat.le_of_ble_eq_true rfl)) dX8_takes_20 ⟨Nat.le_of_ble_eq_true rfl, Nat.le_of_ble_eq_true rfl⟩) hS (fun q _ h => fA_le hS.1 q h) (fA_le hS.1) (fun r9 u9 t9 H1 locs ht9 hvm9 hw9 hB9 hz9 hk9 hS => ?_)
        obtain ⟨μ1, r2⟩ := u9
        obtain ⟨hP, -⟩ := hB9
        rw [ht9] at hP
        generalize H1 = H at hP hS ⊢
        obtain ⟨e9, hw9⟩ := hw9
        have e9 : r9 = iZ r2 := e9
        subst e9
        simp only at hP hw9
        have hμ1 := hw9; clear hw9
        rw [hμ1.1] at hP; have hμ1 := hμ1.2
        have hlf := if_01 hμ1
        refine fz_if_eq (tgt := 30) (by constructor <;> (first | ((try clear hμ1); (try clear hz9); (try clear c16_); (try clear c9_); (try clear c2_); (try clear hsz); (try clear s₁); omega) | omega)) hx hb dX8_takes_23 (by decide) (fun c23_ => ?_) (fun c23_ => ?_)
        · refine lv_iconst (v := iZ 0) hx hb dX8_takes_30 rfl ?_
          exact W.zret (v := iZ (0)) hx hb hr (by decide +kernel) (fun t9 ht9 hW9 => ⟨⟨iZ (0), (μ, 0), rfl, ⟨rfl, (by
                            dsimp only
                            exact ⟨rfl, by (first | ((try clear c23_); (try clear hlf); (try clear hμ1); (try clear μ1); (try clear hz9); (try clear c16_); (try clear c9_); (try clear c2_); (try clear hsz); (try clear s₁); omega) | omega)⟩)⟩, by rw [ht9]; exact hP, va_K.moved hW9.alike hK⟩, hS.F ht9⟩) hS.2.2 dX8_takes_31
        · refine lv_iconst (v := iZ 1) hx hb dX8_takes_26 rfl ?_
          refine lv_goto (tgt := 31) hx hb dX8_takes_27 (by decide) ?_
          exact W.zret (v := iZ (1)) hx hb hr (by decide +kernel) (fun t9 ht9 hW9 => ⟨⟨iZ (1), (μ, 1), rfl, ⟨rfl, (by
                            dsimp only
                            exact ⟨rfl, by (first | ((try clear c23_); (try clear hlf); (try clear hμ1); (try clear μ1); (try clear hz9); (try clear c16_); (try clear c9_); (try clear c2_); (try clear hsz); (try clear s₁); omega) | omega)⟩)⟩, by rw [ht9]; exact hP, va_K.moved hW9.alike hK⟩, hS.F ht9⟩) hS.2.2 dX8_takes_31
set_option maxHeartbeats 4000000 in
set_option maxRecDepth 100000 in
theorem s_WgoInward (l : Launch) (dC : Nat → ClassId) (dI : Nat → Nat → Nat) (cI cZ cII cIII : ClassId) (h0 sz : Nat) (μ : va_M) (q : Nat) (rm : Nat) (kc : Nat) (nc : Nat) (i : Int) (k : Int) (n : Int) (hw : Int) (hq : rowB q rm) (hG : rG μ q rm) (hA : aB μ) (hkc : 110 ≤ kc ∧ kc < 233 ∧ 60 ≤ nc ∧ nc ≤ 1101) (hE : ∀ f, sE cI cZ cII cIII h0 kc f = .inl (cI, nc, .inl f)) (hcr : ∀ j, inR (μ kc j)) (h_i : 0 ≤ i ∧ i < μ q 5) (h_k : 0 ≤ k ∧ k ≤ n ∧ n ≤ 60) (h_w : 0 ≤ hw ∧ hw ≤ 2) : Met l yX8_goInward (Cond.code yX8_goInward cX8_goInward 11 none :: wsG) ({ frames := 3, cells := 0, slots := 0, locals := 55 } : Room) (va_Pc [.ref (h0 + 45), .ref (h0 + q), .int (iZ (i)), .ref (h0 + kc), .int (iZ (k)), .int (iZ (n)), .int (iZ (hw))] (fun U => U.heap.size = sz ∧ va_P (dC, dI) vwCl (fw (sE cI cZ cII cIII h0) h0 233 μ) U.heap ∧ va_K (dC, dI) vwCl (sT cI cZ cII cIII) U ∧ xM U)) (va_Qv (fun (u : va_M) => fr (fun x _ => x = 46 ∨ x = 47) μ u ∧ aB u) (fun u t => va_P (dC, dI) vwCl (fw (sE cI cZ cII cIII h0) h0 233 u) t.heap ∧ va_K (dC, dI) vwCl (sT cI cZ cII cIII) t) (fA h0 233 sz)) 0 0 (fA h0 233 sz) := by
  refine Met.ofW (cc := cX8_goInward) (maxL := 11) (ret := none) (by decide) rfl ?_
  intro p e s m args below meth c s₁ B hml hv
  obtain ⟨rfl, hsz, hP, hK, hM⟩ := hv
  have hx := B.exec
  have hb := B.bytes
  have hr := B.returns
  have hts : ∀ w ∈ wsG, w.before _ s = true := hG_of (atoms_spec (ws := (Cond.code yX8_goInward cX8_goInward 11 none :: wsG)) B.pre)
  have hown : s.vm.findClass RX8 = some m.cls := findClass_of_methodNamed B.named
  have hlocks := B.notSynchronized
  subst hsz
  have hS : va_S (fA h0 233 s.heap.size) s.heap s.heap [] := va_S.rf
  have hl := lv_entry ([.ref (h0 + 45), .ref (h0 + q), .int (iZ (i)), .ref (h0 + kc), .int (iZ (k)), .int (iZ (n)), .int (iZ (hw))]) (n := 11) (Nat.le_of_ble_eq_true rfl)
  rw [lg_entry_eq]
  generalize (lg_sl ([.ref (h0 + 45), .ref (h0 + q), .int (iZ (i)), .ref (h0 + kc), .int (iZ (k)), .int (iZ (n)), .int (iZ (hw))]) ++ List.replicate (11 - (lg_sl ([.ref (h0 + 45), .ref (h0 + q), .int (iZ (i)), .ref (h0 + kc), .int (iZ (k)), .int (iZ (n)), .int (iZ (hw))])).length) Slot.unset).toArray = ls at hl ⊢
  have hl : lv_has ls 11 [(0, .ref (h0 + 45)), (1, .ref (h0 + q)), (2, .int (iZ (i))), (3, .ref (h0 + kc)), (4, .int (iZ (k))), (5, .int (iZ (n))), (6, .int (iZ (hw)))] := hl
  have hqb := rowB_b hq
  have hrm := rG_rm hq hG
  have hqf := rowB_f hq
  have hs1 := hG.1 i.toNat
  have hmi := rG_m hG i h_i.1 h_i.2
  refine lv_aload_n hx hb dX8_goInward_0 rfl (lv_at hl 1 rfl) ?_
  refine fz_get (D := (dC, dI)) (ci := 4) (v := .ref (h0 + (q + 1))) (C := RX4) (T := TX4) (N := 8) hx hb hts inG4 hown hK hP (k := q) (by (first | ((try clear hmi); (try clear hs1); (try clear hqf); (try clear hrm); (try clear hsz); (try clear s₁); (try clear h_w); (try clear h_k); (try clear h_i); (try clear hE); (try clear hkc); omega) | omega)) (F := (sRF h0 q)) (sE_rowO hq) rfl 0 (by decide) (hts _ k81) (fun _ h9 => h9) rfl dX8_goInward_1 ?_
  refine lv_iload_n hx hb dX8_goInward_4 rfl (lv_at hl 2 rfl) ?_
  refine fz_ld (k := (q + 1)) (n := rm) hx hb hK hP 0 (by (first | ((try clear hmi); (try clear hs1); (try clear hqf); (try clear hrm); (try clear hsz); (try clear s₁); (try clear h_w); (try clear h_k); (try clear h_i); (try clear hE); (try clear hkc); omega) | omega)) (sE_rowA (r := 1) hq (by decide)) rfl ⟨by (first | ((try clear hmi); (try clear hs1); (try clear hqf); (try clear hrm); (try clear hqb); (try clear hsz); (try clear s₁); (try clear h_w); (try clear h_k); (try clear hE); (try clear hkc); omega) | omega), by (first | ((try clear hmi); (try clear hs1); (try clear hqf); (try clear hqb); (try clear hsz); (try clear s₁); (try clear h_w); (try clear h_k); (try clear hE); (try clear hkc); omega) | omega)⟩ (by (first | ((try clear hmi); (try clear hs1); (try clear hqb); (try clear hsz); (try clear s₁); (try clear h_w); (try clear h_k); (try clear h_i); (try clear hE); (try clear hkc); omega) | omega)) dX8_goInward_5 ?_
  refine lv_istore (lv' := [(7, .int (iZ (μ (q + 1) (i).toNat))), (0, .ref (h0 + 45)), (1, .ref (h0 + q)), (2, .int (iZ (i))), (3, .ref (h0 + kc)), (4, .int (iZ (k))), (5, .int (iZ (n))), (6, .int (iZ (hw)))]) hx hb dX8_goInward_6 hl (by decide) rfl (fun ls hl => ?_)
  refine lv_iload hx hb dX8_goInward_8 (lv_at hl 0 rfl) ?_
  refine lv_sipush (v := iZ 513) hx hb dX8_goInward_10 rfl ?_
  refine fz_icmp_ne (tgt := 51) (by constructor <;> (first | ((try clear hmi); (try clear hqf); (try clear hrm); (try clear hqb); (try clear hsz); (try clear s₁); (try clear h_w); (try clear h_k); (try clear h_i); (try clear hE); (try clear hkc); omega) | omega)) (by decide) hx hb dX8_goInward_13 (by decide) (fun c13_ => ?_) (fun c13_ => ?_)
  · refine lv_iload hx hb dX8_goInward_51 (lv_at hl 0 rfl) ?_
    refine lv_sipush (v := iZ 514) hx hb dX8_goInward_53 rfl ?_
    refine fz_icmp_ne (tgt := 76) (by constructor <;> (first | ((try clear c13_); (try clear hmi); (try clear hqf); (try clear hrm); (try clear hqb); (try clear hsz); (try clear s₁); (try clear h_w); (try clear h_k); (try clear h_i); (try clear hE); (try clear hkc); omega) | omega)) (by decide) hx hb dX8_goInward_56 (by decide) (fun c56_ => ?_) (fun c56_ => ?_)
    · refine lv_iload hx hb dX8_goInward_76 (lv_at hl 0 rfl) ?_
      refine lv_sipush (v := iZ 515) hx hb dX8_goInward_78 rfl ?_
      refine fz_icmp_ne (tgt := 100) (by constructor <;> (first | ((try clear c56_); (try clear c13_); (try clear hmi); (try clear hqf); (try clear hrm); (try clear hqb); (try clear hsz); (try clear s₁); (try clear h_w); (try clear h_k); (try clear h_i); (try clear hE); (try clear hkc); omega) | omega)) (by decide) hx hb dX8_goInward_81 (by decide) (fun c81_ => ?_) (fun c81_ => ?_)
      · refine lv_aload_n hx hb dX8_goInward_100 rfl (lv_at hl 2 rfl) ?_
        refine fz_get (D := (dC, dI)) (ci := 4) (v := .int (iZ (μ q 5))) (C := RX4) (T := TX4) (N := 8) hx hb hts inG4 hown hK hP (k := q) (by (first | ((try clear c81_); (try clear c56_); (try clear c13_); (try clear hmi); (try clear hs1); (try clear hqf); (try clear hrm); (try clear hsz); (try clear s₁); (try clear h_w); (try clear h_k); (try clear h_i); (try clear hE); (try clear hkc); omega) | omega)) (F := (sRF h0 q)) (sE_rowO hq) rfl 5 (by decide) (hts _ k93) (fun _ h9 => h9) rfl dX8_goInward_101 ?_
        refine lv_iconst (v := iZ 1) hx hb dX8_goInward_104 rfl ?_
        refine lv_iadd hx hb dX8_goInward_105 ?_
        refine lv_topi (fun x9 ex9 => ?_)
        obtain rfl : x9 = iZ ((μ q 5) + 1) := ex9.trans (iZ_add _ _)
        refine lv_istore (lv' := [(8, .int (iZ ((μ q 5) + 1))), (7, .int (iZ (μ (q + 1) (i).toNat))), (0, .ref (h0 + 45)), (1, .ref (h0 + q)), (2, .int (iZ (i))), (3, .ref (h0 + kc)), (4, .int (iZ (k))), (5, .int (iZ (n))), (6, .int (iZ (hw)))]) hx hb dX8_goInward_106 hl (by decide) rfl (fun ls hl => ?_)
        refine lv_iload hx hb dX8_goInward_108 (lv_at hl 6 rfl) ?_
        refine lv_iload hx hb dX8_goInward_110 (lv_at hl 0 rfl) ?_
        refine lv_imul hx hb dX8_goInward_112 ?_
        refine lv_topi (fun x9 ex9 => ?_)
        obtain rfl : x9 = iZ (k * ((μ q 5) + 1)) := ex9.trans (iZ_mul _ _)
        refine lv_iload_n hx hb dX8_goInward_113 rfl (lv_at hl 4 rfl) ?_
        refine lv_iadd hx hb dX8_goInward_114 ?_
        refine lv_topi (fun x9 ex9 => ?_)
        obtain rfl : x9 = iZ ((k * ((μ q 5) + 1)) + i) := ex9.trans (iZ_add _ _)
        refine lv_istore (lv' := [(9, .int (iZ ((k * ((μ q 5) + 1)) + i))), (8, .int (iZ ((μ q 5) + 1))), (7, .int (iZ (μ (q + 1) (i).toNat))), (0, .ref (h0 + 45)), (1, .ref (h0 + q)), (2, .int (iZ (i))), (3, .ref (h0 + kc)), (4, .int (iZ (k))), (5, .int (iZ (n))), (6, .int (iZ (hw)))]) hx hb dX8_goInward_115 hl (by decide) rfl (fun ls hl => ?_)
        refine lv_iload hx hb dX8_goInward_117 (lv_at hl 7 rfl) ?_
        refine lv_iload hx hb dX8_goInward_119 (lv_at hl 9 rfl) ?_
        refine va_calli (va_runS (As := [.int (iZ (k)), .int (iZ (hw))]) (rest := []) ⟨hx, hb, hml, hown, hts⟩ (s_Wnothing l dC dI cI cZ cII cIII h0 s.heap.size μ (k) (hw) (by constructor <;> (first | ((try clear ex9); (try clear c81_); (try clear c56_); (try clear c13_); (try clear hmi); (try clear hs1); (try clear hqf); (try clear hrm); (try clear hqb); (try clear hsz); (try clear s₁); (try clear h_w); (try clear h_i); (try clear hE); (try clear hkc); omega) | omega)) (by constructor <;> (first | ((try clear ex9); (try clear c81_); (try clear c56_); (try clear c13_); (try clear hmi); (try clear hs1); (try clear hqf); (try clear hrm); (try clear hqb); (try clear hsz); (try clear s₁); (try clear h_k); (try clear h_i); (try clear hE); (try clear hkc); omega) | omega))) (cwS 2 hts (gS_G k550 k551 k8 k552) rfl rfl rfl (by decide +kernel) ⟨Nat.le_of_ble_eq_true rfl, Nat.le_of_ble_eq_true rfl⟩) ⟨fun a U g mk q => by obtain ⟨q0, q1, qP, qK, qM⟩ := q; exact ⟨q0, q1, qP, va_K.moved (u := U) (U := U.calling g mk a) (Vm.Alike.refl U.vm) qK, qM⟩, fun U hU hW => ⟨rfl, by rw [hU], by rw [hU]; exact hP, va_K.moved hW.alike hK, xM_warm hW hM⟩⟩ rfl rfl hl.1 rfl (lv_room (Nat.le_of_ble_eq_true rfl)) dX8_goInward_121 ⟨Nat.le_of_ble_eq_true rfl, Nat.le_of_ble_eq_true rfl⟩) hS (fun q _ h => fA_le hS.1 q h) (fA_le hS.1) (fun r9 u9 t9 H1 locs ht9 hvm9 hw9 hB9 hz9 hk9 hS => ?_)
        obtain ⟨μn, rn⟩ := u9
        obtain ⟨hP, -⟩ := hB9
        rw [ht9] at hP
        generalize H1 = H at hP hS ⊢
        obtain ⟨e9, hw9⟩ := hw9
        have e9 : r9 = iZ rn := e9
        subst e9
        simp only at hP hw9
        have hμn := hw9; clear hw9
        rw [hμn.1] at hP; have hμn := hμn.2
        have hrn := nb_b hμn (by (first | ((try clear hrn); (try clear hμn); (try clear μn); (try clear hz9); (try clear ex9); (try clear c81_); (try clear c56_); (try clear c13_); (try clear hmi); (try clear hs1); (try clear hqf); (try clear hrm); (try clear hqb); (try clear hsz); (try clear s₁); (try clear h_w); (try clear h_i); (try clear hE); (try clear hkc); omega) | omega))
        have mb := mulB k (μ q 5 + 1) (by (first | ((try clear mb); (try clear hrn); (try clear hμn); (try clear μn); (try clear hz9); (try clear ex9); (try clear c81_); (try clear c56_); (try clear c13_); (try clear hmi); (try clear hs1); (try clear hqf); (try clear hrm); (try clear hqb); (try clear hsz); (try clear s₁); (try clear h_w); (try clear h_i); (try clear hE); (try clear hkc); omega) | omega)) (by (first | ((try clear mb); (try clear hrn); (try clear hμn); (try clear μn); (try clear hz9); (try clear ex9); (try clear c81_); (try clear c56_); (try clear c13_); (try clear hmi); (try clear hs1); (try clear hqf); (try clear hrm); (try clear hqb); (try clear hsz); (try clear s₁); (try clear h_w); (try clear h_i); (try clear hE); (try clear hkc); omega) | omega)) (by (first | ((try clear mb); (try clear hrn); (try clear hμn); (try clear μn); (try clear hz9); (try clear ex9); (try clear c81_); (try clear c56_); (try clear c13_); (try clear hmi); (try clear hs1); (try clear hqf); (try clear hqb); (try clear hsz); (try clear s₁); (try clear h_w); (try clear h_k); (try clear h_i); (try clear hE); (try clear hkc); omega) | omega)) (by (first | ((try clear mb); (try clear hrn); (try clear hμn); (try clear μn); (try clear hz9); (try clear ex9); (try clear hmi); (try clear hqb); (try clear hsz); (try clear s₁); (try clear h_k); (try clear h_i); (try clear hE); (try clear hkc); omega) | omega))
        refine lv_istore (lv' := [(10, .int (iZ (rn))), (9, .int (iZ ((k * ((μ q 5) + 1)) + i))), (8, .int (iZ ((μ q 5) + 1))), (7, .int (iZ (μ (q + 1) (i).toNat))), (0, .ref (h0 + 45)), (1, .ref (h0 + q)), (2, .int (iZ (i))), (3, .ref (h0 + kc)), (4, .int (iZ (k))), (5, .int (iZ (n))), (6, .int (iZ (hw)))]) hx hb dX8_goInward_124 hl (by decide) rfl (fun ls hl => ?_)
        refine lv_iload hx hb dX8_goInward_126 (lv_at hl 8 rfl) ?_
        refine lv_iload hx hb dX8_goInward_128 (lv_at hl 9 rfl) ?_
        refine fz_icmp_ge (tgt := 184) (by constructor <;> (first | ((try clear mb); (try clear hrn); (try clear hμn); (try clear μn); (try clear hz9); (try clear ex9); (try clear c81_); (try clear c56_); (try clear c13_); (try clear hmi); (try clear hs1); (try clear hqf); (try clear hrm); (try clear hqb); (try clear hsz); (try clear s₁); (try clear h_w); (try clear h_i); (try clear hE); (try clear hkc); omega) | omega)) (by constructor <;> (first | ((try clear mb); (try clear hrn); (try clear hμn); (try clear μn); (try clear hz9); (try clear ex9); (try clear c81_); (try clear c56_); (try clear c13_); (try clear hmi); (try clear hs1); (try clear hqf); (try clear hrm); (try clear hqb); (try clear hsz); (try clear s₁); (try clear h_w); (try clear h_i); (try clear hE); (try clear hkc); omega) | omega)) hx hb dX8_goInward_130 (by decide) (fun c130_ => ?_) (fun c130_ => ?_)
        · refine lv_aload_n hx hb dX8_goInward_184 rfl (lv_at hl 4 rfl) ?_
          refine fz_get (D := (dC, dI)) (ci := 8) (v := .ref (h0 + 46)) (C := RX8) (T := TX8) (N := 2) hx hb hts inG8 hown hK hP (k := 45) (by decide) (F := (sF45 h0)) sE_45 rfl 0 (by decide) (hts _ k211) (fun _ h9 => h9) rfl dX8_goInward_185 ?_
          refine lv_iload hx hb dX8_goInward_188 (lv_at hl 1 rfl) ?_
          refine lv_iload hx hb dX8_goInward_190 (lv_at hl 0 rfl) ?_
          refine fz_st (k := 46) (n := 67161) (i := ((k * ((μ q 5) + 1)) + i)) (z := rn) hx hb hK hP fA_in hS 0 (by decide) sE_46 rfl ⟨by (first | ((try clear c130_); (try clear hrn); (try clear hμn); (try clear μn); (try clear hz9); (try clear ex9); (try clear c81_); (try clear c56_); (try clear c13_); (try clear hmi); (try clear hs1); (try clear hqf); (try clear hrm); (try clear hqb); (try clear hsz); (try clear s₁); (try clear h_w); (try clear h_k); (try clear hE); (try clear hkc); omega) | omega), by (first | ((try clear c130_); (try clear hrn); (try clear hμn); (try clear μn); (try clear hz9); (try clear ex9); (try clear hmi); (try clear hqb); (try clear hsz); (try clear s₁); (try clear h_k); (try clear hE); (try clear hkc); omega) | omega)⟩ (by decide) dX8_goInward_192 (fun H locs hP hS => ?_)
          obtain ⟨μ1, eμ1⟩ : ∃ x : va_M, x = uz μ 46 ((k * ((μ q 5) + 1)) + i).toNat (rn) := ⟨_, rfl⟩
          rw [← eμ1] at hP
          refine lv_aload_n hx hb dX8_goInward_193 rfl (lv_at hl 4 rfl) ?_
          refine fz_get (D := (dC, dI)) (ci := 8) (v := .ref (h0 + 47)) (C := RX8) (T := TX8) (N := 2) hx hb hts inG8 hown hK hP (k := 45) (by decide) (F := (sF45 h0)) sE_45 rfl 1 (by decide) (hts _ k212) (fun _ h9 => h9) rfl dX8_goInward_194 ?_
          refine lv_iload_n hx hb dX8_goInward_197 rfl (lv_at hl 6 rfl) ?_
          refine lv_iload hx hb dX8_goInward_198 (lv_at hl 0 rfl) ?_
          refine fz_st (k := 47) (n := 1101) (i := i) (z := rn) hx hb hK hP fA_in hS 0 (by decide) sE_47 rfl ⟨by (first | ((try clear x); (try clear eμ1); (try clear μ1); (try clear c130_); (try clear mb); (try clear hrn); (try clear hμn); (try clear μn); (try clear hz9); (try clear ex9); (try clear c81_); (try clear c56_); (try clear c13_); (try clear hmi); (try clear hs1); (try clear hqf); (try clear hrm); (try clear hqb); (try clear hsz); (try clear s₁); (try clear h_w); (try clear h_k); (try clear hE); (try clear hkc); omega) | omega), by (first | ((try clear x); (try clear eμ1); (try clear μ1); (try clear c130_); (try clear hrn); (try clear hμn); (try clear μn); (try clear hz9); (try clear ex9); (try clear hmi); (try clear hqb); (try clear hsz); (try clear s₁); (try clear h_k); (try clear hE); (try clear hkc); omega) | omega)⟩ (by decide) dX8_goInward_200 (fun H locs hP hS => ?_)
          obtain ⟨μ2, eμ2⟩ : ∃ x : va_M, x = uz μ1 47 (i).toNat (rn) := ⟨_, rfl⟩
          rw [← eμ2] at hP
          exact W.vret hx hb hr (fun t9 ht9 hW9 => ⟨⟨μ2, rfl, (by
                            try dsimp only
                            rw [eμ2, eμ1]
                            exact ⟨fr_uz (fr_uz fr_rfl (Or.inl rfl)) (Or.inr rfl), aB_uz (aB_uz hA (fun _ => by (first | ((try clear μ1); (try clear x); (try clear eμ2); (try clear μ2); (try clear eμ1); (try clear c130_); (try clear mb); (try clear hμn); (try clear hz9); (try clear ex9); (try clear c81_); (try clear c56_); (try clear c13_); (try clear hmi); (try clear hs1); (try clear hqf); (try clear hrm); (try clear hqb); (try clear hsz); (try clear s₁); (try clear h_w); (try clear h_k); (try clear h_i); (try clear hE); (try clear hkc); omega) | omega))) (fun _ => by (first | ((try clear μ1); (try clear x); (try clear eμ2); (try clear μ2); (try clear eμ1); (try clear c130_); (try clear mb); (try clear hμn); (try clear hz9); (try clear ex9); (try clear c81_); (try clear c56_); (try clear c13_); (try clear hmi); (try clear hs1); (try clear hqf); (try clear hrm); (try clear hqb); (try clear hsz); (try clear s₁); (try clear h_w); (try clear h_k); (try clear h_i); (try clear hE); (try clear hkc); omega) | omega))⟩), by rw [ht9]; exact hP, va_K.moved hW9.alike hK⟩, hS.F ht9⟩) hS.2.2 dX8_goInward_201
        · have mb3 := mb.2.2 (by (first | ((try clear mb3); (try clear mb); (try clear hrn); (try clear hμn); (try clear μn); (try clear hz9); (try clear ex9); (try clear c81_); (try clear c56_); (try clear c13_); (try clear hmi); (try clear hs1); (try clear hqf); (try clear hrm); (try clear hqb); (try clear hsz); (try clear s₁); (try clear h_w); (try clear h_i); (try clear hE); (try clear hkc); omega) | omega))
          have hck := hcr k.toNat
          have hb1 := hA (k * (μ q 5 + 1) + i + (μ q 5 + 1) + 1).toNat
          have hb2 := hA (k * (μ q 5 + 1) + i + (μ q 5 + 1)).toNat
          refine lv_iload hx hb dX8_goInward_133 (lv_at hl 3 rfl) ?_
          refine lv_aload_n hx hb dX8_goInward_135 rfl (lv_at hl 7 rfl) ?_
          refine lv_iload hx hb dX8_goInward_136 (lv_at hl 8 rfl) ?_
          refine fz_ld (k := kc) (n := nc) hx hb hK hP 0 (by (first | ((try clear hb2); (try clear hb1); (try clear hck); (try clear mb3); (try clear c130_); (try clear mb); (try clear hrn); (try clear hμn); (try clear μn); (try clear hz9); (try clear ex9); (try clear c81_); (try clear c56_); (try clear c13_); (try clear hmi); (try clear hs1); (try clear hqf); (try clear hrm); (try clear hqb); (try clear hsz); (try clear s₁); (try clear h_w); (try clear h_k); (try clear h_i); (try clear hE); omega) | omega)) hE rfl ⟨by (first | ((try clear hb2); (try clear hb1); (try clear hck); (try clear mb3); (try clear c130_); (try clear mb); (try clear hrn); (try clear hμn); (try clear μn); (try clear hz9); (try clear ex9); (try clear c81_); (try clear c56_); (try clear c13_); (try clear hmi); (try clear hs1); (try clear hqf); (try clear hrm); (try clear hqb); (try clear hsz); (try clear s₁); (try clear h_w); (try clear h_i); (try clear hE); (try clear hkc); omega) | omega), by (first | ((try clear hb2); (try clear hb1); (try clear hck); (try clear mb3); (try clear mb); (try clear hrn); (try clear hμn); (try clear μn); (try clear hz9); (try clear ex9); (try clear c81_); (try clear c56_); (try clear c13_); (try clear hmi); (try clear hs1); (try clear hqf); (try clear hrm); (try clear hqb); (try clear hsz); (try clear s₁); (try clear h_w); (try clear h_i); (try clear hE); omega) | omega)⟩ (by (first | ((try clear hb2); (try clear hb1); (try clear hck); (try clear mb3); (try clear c130_); (try clear mb); (try clear hrn); (try clear hμn); (try clear μn); (try clear hz9); (try clear ex9); (try clear c81_); (try clear c56_); (try clear c13_); (try clear hmi); (try clear hs1); (try clear hqf); (try clear hrm); (try clear hqb); (try clear hsz); (try clear s₁); (try clear h_w); (try clear h_k); (try clear h_i); (try clear hE); omega) | omega)) dX8_goInward_138 ?_
          refine va_calli (va_runS (As := [.int (iZ (μ (q + 1) (i).toNat)), .int (iZ (μ kc (k).toNat))]) (rest := []) ⟨hx, hb, hml, hown, hts⟩ (s_Wtakes l dC dI cI cZ cII cIII h0 H.size μ (μ (q + 1) (i).toNat) (μ kc (k).toNat) (by constructor <;> (first | ((try clear hb2); (try clear hb1); (try clear hck); (try clear mb3); (try clear c130_); (try clear mb); (try clear hrn); (try clear hμn); (try clear μn); (try clear hz9); (try clear ex9); (try clear c81_); (try clear c56_); (try clear c13_); (try clear hmi); (try clear hqf); (try clear hrm); (try clear hqb); (try clear hsz); (try clear s₁); (try clear h_w); (try clear h_k); (try clear h_i); (try clear hE); (try clear hkc); omega) | omega)) (by exact hck)) (cwS 2 hts (gS_G k564 k565 k8 k566) rfl rfl rfl (by decide +kernel) ⟨Nat.le_of_ble_eq_true rfl, Nat.le_of_ble_eq_true rfl⟩) ⟨fun a U g mk q => by obtain ⟨q0, q1, qP, qK, qM⟩ := q; exact ⟨q0, q1, qP, va_K.moved (u := U) (U := U.calling g mk a) (Vm.Alike.refl U.vm) qK, qM⟩, fun U hU hW => ⟨rfl, by rw [hU], by rw [hU]; exact hP, va_K.moved hW.alike hK, xM_warm hW hM⟩⟩ rfl rfl hl.1 rfl (lv_room (Nat.le_of_ble_eq_true rfl)) dX8_goInward_139 ⟨Nat.le_of_ble_eq_true rfl, Nat.le_of_ble_eq_true rfl⟩) hS (fun q _ h => fA_le hS.1 q h) (fA_le hS.1) (fun r9 u9 t9 H1 locs ht9 hvm9 hw9 hB9 hz9 hk9 hS => ?_)
          obtain ⟨μk, rk⟩ := u9
          obtain ⟨hP, -⟩ := hB9
          rw [ht9] at hP
          generalize H1 = H at hP hS ⊢
          obtain ⟨e9, hw9⟩ := hw9
          have e9 : r9 = iZ rk := e9
          subst e9
          simp only at hP hw9
          have hμk := hw9; clear hw9
          rw [hμk.1] at hP; have hμk := hμk.2
          have hrk := hμk
          refine fz_if_eq (tgt := 159) (by constructor <;> (first | ((try clear hμk); (try clear μk); (try clear hz9); (try clear hb2); (try clear hb1); (try clear hck); (try clear mb3); (try clear c130_); (try clear mb); (try clear hrn); (try clear hμn); (try clear μn); (try clear ex9); (try clear c81_); (try clear c56_); (try clear c13_); (try clear hmi); (try clear hs1); (try clear hqf); (try clear hrm); (try clear hqb); (try clear hsz); (try clear s₁); (try clear h_w); (try clear h_k); (try clear h_i); (try clear hE); (try clear hkc); omega) | omega)) hx hb dX8_goInward_142 (by decide) (fun c142_ => ?_) (fun c142_ => ?_)
          · refine lv_iload hx hb dX8_goInward_159 (lv_at hl 10 rfl) ?_
            refine lv_iconst (v := iZ 1) hx hb dX8_goInward_161 rfl ?_
            refine fz_icmp_ne (tgt := 184) (by constructor <;> (first | ((try clear c142_); (try clear hrk); (try clear hμk); (try clear μk); (try clear hz9); (try clear hb2); (try clear hb1); (try clear hck); (try clear mb3); (try clear c130_); (try clear mb); (try clear hrn); (try clear hμn); (try clear μn); (try clear ex9); (try clear c81_); (try clear c56_); (try clear c13_); (try clear hmi); (try clear hs1); (try clear hqf); (try clear hrm); (try clear hqb); (try clear hsz); (try clear s₁); (try clear h_k); (try clear h_i); (try clear hE); (try clear hkc); omega) | omega)) (by decide) hx hb dX8_goInward_162 (by decide) (fun c162_ => ?_) (fun c162_ => ?_)
            · refine lv_aload_n hx hb dX8_goInward_184 rfl (lv_at hl 4 rfl) ?_
              refine fz_get (D := (dC, dI)) (ci := 8) (v := .ref (h0 + 46)) (C := RX8) (T := TX8) (N := 2) hx hb hts inG8 hown hK hP (k := 45) (by decide) (F := (sF45 h0)) sE_45 rfl 0 (by decide) (hts _ k211) (fun _ h9 => h9) rfl dX8_goInward_185 ?_
              refine lv_iload hx hb dX8_goInward_188 (lv_at hl 1 rfl) ?_
              refine lv_iload hx hb dX8_goInward_190 (lv_at hl 0 rfl) ?_
              refine fz_st (k := 46) (n := 67161) (i := ((k * ((μ q 5) + 1)) + i)) (z := rn) hx hb hK hP fA_in hS 0 (by decide) sE_46 rfl ⟨by (first | ((try clear c162_); (try clear c142_); (try clear hrk); (try clear hμk); (try clear μk); (try clear hz9); (try clear hb2); (try clear hb1); (try clear hck); (try clear mb3); (try clear c130_); (try clear hrn); (try clear hμn); (try clear μn); (try clear ex9); (try clear c81_); (try clear c56_); (try clear c13_); (try clear hmi); (try clear hs1); (try clear hqf); (try clear hrm); (try clear hqb); (try clear hsz); (try clear s₁); (try clear h_w); (try clear h_k); (try clear hE); (try clear hkc); omega) | omega), by (first | ((try clear c162_); (try clear c142_); (try clear hrk); (try clear hμk); (try clear μk); (try clear hz9); (try clear hb2); (try clear hb1); (try clear hck); (try clear c130_); (try clear mb); (try clear hrn); (try clear hμn); (try clear μn); (try clear ex9); (try clear c81_); (try clear c56_); (try clear c13_); (try clear hmi); (try clear hs1); (try clear hqf); (try clear hrm); (try clear hqb); (try clear hsz); (try clear s₁); (try clear h_w); (try clear h_k); (try clear hE); (try clear hkc); omega) | omega)⟩ (by decide) dX8_goInward_192 (fun H locs hP hS => ?_)
              obtain ⟨μ3, eμ3⟩ : ∃ x : va_M, x = uz μ 46 ((k * ((μ q 5) + 1)) + i).toNat (rn) := ⟨_, rfl⟩
              rw [← eμ3] at hP
              refine lv_aload_n hx hb dX8_goInward_193 rfl (lv_at hl 4 rfl) ?_
              refine fz_get (D := (dC, dI)) (ci := 8) (v := .ref (h0 + 47)) (C := RX8) (T := TX8) (N := 2) hx hb hts inG8 hown hK hP (k := 45) (by decide) (F := (sF45 h0)) sE_45 rfl 1 (by decide) (hts _ k212) (fun _ h9 => h9) rfl dX8_goInward_194 ?_
              refine lv_iload_n hx hb dX8_goInward_197 rfl (lv_at hl 6 rfl) ?_
              refine lv_iload hx hb dX8_goInward_198 (lv_at hl 0 rfl) ?_
              refine fz_st (k := 47) (n := 1101) (i := i) (z := rn) hx hb hK hP fA_in hS 0 (by decide) sE_47 rfl ⟨by (first | ((try clear x); (try clear eμ3); (try clear μ3); (try clear c162_); (try clear c142_); (try clear hrk); (try clear hμk); (try clear μk); (try clear hz9); (try clear hb2); (try clear hb1); (try clear hck); (try clear mb3); (try clear c130_); (try clear mb); (try clear hrn); (try clear hμn); (try clear μn); (try clear ex9); (try clear c81_); (try clear c56_); (try clear c13_); (try clear hmi); (try clear hs1); (try clear hqf); (try clear hrm); (try clear hqb); (try clear hsz); (try clear s₁); (try clear h_w); (try clear h_k); (try clear hE); (try clear hkc); omega) | omega), by (first | ((try clear x); (try clear eμ3); (try clear μ3); (try clear hz9); (try clear hb2); (try clear hb1); (try clear hck); (try clear mb3); (try clear hrn); (try clear hμn); (try clear μn); (try clear ex9); (try clear hmi); (try clear hqb); (try clear hsz); (try clear s₁); (try clear hE); (try clear hkc); omega) | omega)⟩ (by decide) dX8_goInward_200 (fun H locs hP hS => ?_)
              obtain ⟨μ4, eμ4⟩ : ∃ x : va_M, x = uz μ3 47 (i).toNat (rn) := ⟨_, rfl⟩
              rw [← eμ4] at hP
              exact W.vret hx hb hr (fun t9 ht9 hW9 => ⟨⟨μ4, rfl, (by
                                    try dsimp only
                                    rw [eμ4, eμ3]
                                    exact ⟨fr_uz (fr_uz fr_rfl (Or.inl rfl)) (Or.inr rfl), aB_uz (aB_uz hA (fun _ => by (first | ((try clear μ3); (try clear x); (try clear eμ4); (try clear μ4); (try clear eμ3); (try clear c162_); (try clear c142_); (try clear hrk); (try clear hμk); (try clear μk); (try clear hz9); (try clear hb2); (try clear hb1); (try clear hck); (try clear mb3); (try clear c130_); (try clear mb); (try clear hμn); (try clear ex9); (try clear c81_); (try clear c56_); (try clear c13_); (try clear hmi); (try clear hs1); (try clear hqf); (try clear hrm); (try clear hqb); (try clear hsz); (try clear s₁); (try clear h_w); (try clear h_k); (try clear h_i); (try clear hE); (try clear hkc); omega) | omega))) (fun _ => by (first | ((try clear μ3); (try clear x); (try clear eμ4); (try clear μ4); (try clear eμ3); (try clear c162_); (try clear c142_); (try clear hrk); (try clear hμk); (try clear μk); (try clear hz9); (try clear hb2); (try clear hb1); (try clear hck); (try clear mb3); (try clear c130_); (try clear mb); (try clear hμn); (try clear ex9); (try clear c81_); (try clear c56_); (try clear c13_); (try clear hmi); (try clear hs1); (try clear hqf); (try clear hrm); (try clear hqb); (try clear hsz); (try clear s₁); (try clear h_w); (try clear h_k); (try clear h_i); (try clear hE); (try clear hkc); omega) | omega))⟩), by rw [ht9]; exact hP, va_K.moved hW9.alike hK⟩, hS.F ht9⟩) hS.2.2 dX8_goInward_201
            · refine lv_iload hx hb dX8_goInward_165 (lv_at hl 0 rfl) ?_
              refine lv_aload_n hx hb dX8_goInward_167 rfl (lv_at hl 4 rfl) ?_
              refine fz_get (D := (dC, dI)) (ci := 8) (v := .ref (h0 + 46)) (C := RX8) (T := TX8) (N := 2) hx hb hts inG8 hown hK hP (k := 45) (by decide) (F := (sF45 h0)) sE_45 rfl 0 (by decide) (hts _ k211) (fun _ h9 => h9) rfl dX8_goInward_168 ?_
              refine lv_iload hx hb dX8_goInward_171 (lv_at hl 1 rfl) ?_
              refine lv_iload hx hb dX8_goInward_173 (lv_at hl 2 rfl) ?_
              refine lv_iadd hx hb dX8_goInward_175 ?_
              refine lv_topi (fun x9 ex9 => ?_)
              obtain rfl : x9 = iZ (((k * ((μ q 5) + 1)) + i) + ((μ q 5) + 1)) := ex9.trans (iZ_add _ _)
              refine fz_ld (k := 46) (n := 67161) hx hb hK hP 0 (by decide) sE_46 rfl ⟨by (first | ((try clear ex9); (try clear c162_); (try clear c142_); (try clear hrk); (try clear hμk); (try clear μk); (try clear hz9); (try clear hb2); (try clear hb1); (try clear hck); (try clear mb3); (try clear c130_); (try clear hrn); (try clear hμn); (try clear μn); (try clear c81_); (try clear c56_); (try clear c13_); (try clear hs1); (try clear hqf); (try clear hrm); (try clear hqb); (try clear hsz); (try clear s₁); (try clear h_w); (try clear h_k); (try clear hE); (try clear hkc); omega) | omega), by (first | ((try clear ex9); (try clear hz9); (try clear hb2); (try clear hb1); (try clear hck); (try clear hrn); (try clear hμn); (try clear μn); (try clear hmi); (try clear hqb); (try clear hsz); (try clear s₁); (try clear h_w); (try clear hE); (try clear hkc); omega) | omega)⟩ (by decide) dX8_goInward_176 ?_
              refine lv_iconst (v := iZ 1) hx hb dX8_goInward_177 rfl ?_
              refine lv_iadd hx hb dX8_goInward_178 ?_
              refine lv_topi (fun x9 ex9 => ?_)
              obtain rfl : x9 = iZ ((μ 46 (((k * ((μ q 5) + 1)) + i) + ((μ q 5) + 1)).toNat) + 1) := ex9.trans (iZ_add _ _)
              refine va_mmin hx hb (hml.trans hl.1.symm) hown (hts _ k562) (hts _ k501) (hts _ k4) (hts _ k502) (Nat.le_of_ble_eq_true rfl) (Nat.le_of_ble_eq_true rfl) (Nat.le_of_ble_eq_true rfl) (Nat.le_of_ble_eq_true rfl) dX8_goInward_179 ?_
              refine lv_topi (fun x9 ex9 => ?_)
              obtain rfl : x9 = iZ (min rn ((μ 46 (((k * ((μ q 5) + 1)) + i) + ((μ q 5) + 1)).toNat) + 1)) := ex9.trans (iZ_mn (by constructor <;> (first | ((try clear ex9); (try clear c162_); (try clear c142_); (try clear hrk); (try clear hμk); (try clear μk); (try clear hz9); (try clear hb2); (try clear hb1); (try clear hck); (try clear mb3); (try clear c130_); (try clear mb); (try clear hμn); (try clear c81_); (try clear c56_); (try clear c13_); (try clear hmi); (try clear hs1); (try clear hqf); (try clear hrm); (try clear hqb); (try clear hsz); (try clear s₁); (try clear h_w); (try clear h_k); (try clear h_i); (try clear hE); (try clear hkc); omega) | omega)) (by constructor <;> (first | ((try clear ex9); (try clear c162_); (try clear c142_); (try clear hrk); (try clear hμk); (try clear μk); (try clear hz9); (try clear hb1); (try clear hck); (try clear mb3); (try clear c130_); (try clear mb); (try clear hrn); (try clear hμn); (try clear μn); (try clear c81_); (try clear c56_); (try clear c13_); (try clear hmi); (try clear hs1); (try clear hqf); (try clear hrm); (try clear hqb); (try clear hsz); (try clear s₁); (try clear h_w); (try clear h_k); (try clear h_i); (try clear hE); (try clear hkc); omega) | omega)))
              refine lv_istore (lv' := [(10, .int (iZ (min rn ((μ 46 (((k * ((μ q 5) + 1)) + i) + ((μ q 5) + 1)).toNat) + 1)))), (9, .int (iZ ((k * ((μ q 5) + 1)) + i))), (8, .int (iZ ((μ q 5) + 1))), (7, .int (iZ (μ (q + 1) (i).toNat))), (0, .ref (h0 + 45)), (1, .ref (h0 + q)), (2, .int (iZ (i))), (3, .ref (h0 + kc)), (4, .int (iZ (k))), (5, .int (iZ (n))), (6, .int (iZ (hw)))]) hx hb dX8_goInward_182 hl (by decide) rfl (fun ls hl => ?_)
              refine lv_aload_n hx hb dX8_goInward_184 rfl (lv_at hl 4 rfl) ?_
              refine fz_get (D := (dC, dI)) (ci := 8) (v := .ref (h0 + 46)) (C := RX8) (T := TX8) (N := 2) hx hb hts inG8 hown hK hP (k := 45) (by decide) (F := (sF45 h0)) sE_45 rfl 0 (by decide) (hts _ k211) (fun _ h9 => h9) rfl dX8_goInward_185 ?_
              refine lv_iload hx hb dX8_goInward_188 (lv_at hl 1 rfl) ?_
              refine lv_iload hx hb dX8_goInward_190 (lv_at hl 0 rfl) ?_
              refine fz_st (k := 46) (n := 67161) (i := ((k * ((μ q 5) + 1)) + i)) (z := (min rn ((μ 46 (((k * ((μ q 5) + 1)) + i) + ((μ q 5) + 1)).toNat) + 1))) hx hb hK hP fA_in hS 0 (by decide) sE_46 rfl ⟨by (first | ((try clear ex9); (try clear c162_); (try clear c142_); (try clear hrk); (try clear hμk); (try clear μk); (try clear hz9); (try clear hb2); (try clear hb1); (try clear hck); (try clear mb3); (try clear c130_); (try clear hrn); (try clear hμn); (try clear μn); (try clear c81_); (try clear c56_); (try clear c13_); (try clear hmi); (try clear hs1); (try clear hqf); (try clear hrm); (try clear hqb); (try clear hsz); (try clear s₁); (try clear h_w); (try clear h_k); (try clear hE); (try clear hkc); omega) | omega), by (first | ((try clear ex9); (try clear c162_); (try clear c142_); (try clear hrk); (try clear hμk); (try clear μk); (try clear hz9); (try clear hb2); (try clear hb1); (try clear hck); (try clear c130_); (try clear mb); (try clear hrn); (try clear hμn); (try clear μn); (try clear c81_); (try clear c56_); (try clear c13_); (try clear hmi); (try clear hs1); (try clear hqf); (try clear hrm); (try clear hqb); (try clear hsz); (try clear s₁); (try clear h_w); (try clear h_k); (try clear hE); (try clear hkc); omega) | omega)⟩ (by decide) dX8_goInward_192 (fun H locs hP hS => ?_)
              obtain ⟨μ5, eμ5⟩ : ∃ x : va_M, x = uz μ 46 ((k * ((μ q 5) + 1)) + i).toNat (min rn ((μ 46 (((k * ((μ q 5) + 1)) + i) + ((μ q 5) + 1)).toNat) + 1)) := ⟨_, rfl⟩
              rw [← eμ5] at hP
              refine lv_aload_n hx hb dX8_goInward_193 rfl (lv_at hl 4 rfl) ?_
              refine fz_get (D := (dC, dI)) (ci := 8) (v := .ref (h0 + 47)) (C := RX8) (T := TX8) (N := 2) hx hb hts inG8 hown hK hP (k := 45) (by decide) (F := (sF45 h0)) sE_45 rfl 1 (by decide) (hts _ k212) (fun _ h9 => h9) rfl dX8_goInward_194 ?_
              refine lv_iload_n hx hb dX8_goInward_197 rfl (lv_at hl 6 rfl) ?_
              refine lv_iload hx hb dX8_goInward_198 (lv_at hl 0 rfl) ?_
              refine fz_st (k := 47) (n := 1101) (i := i) (z := (min rn ((μ 46 (((k * ((μ q 5) + 1)) + i) + ((μ q 5) + 1)).toNat) + 1))) hx hb hK hP fA_in hS 0 (by decide) sE_47 rfl ⟨by (first | ((try clear min); (try clear x); (try clear eμ5); (try clear μ5); (try clear ex9); (try clear c162_); (try clear c142_); (try clear hrk); (try clear hμk); (try clear μk); (try clear hz9); (try clear hb2); (try clear hb1); (try clear hck); (try clear mb3); (try clear c130_); (try clear mb); (try clear hrn); (try clear hμn); (try clear μn); (try clear c81_); (try clear c56_); (try clear c13_); (try clear hmi); (try clear hs1); (try clear hqf); (try clear hrm); (try clear hqb); (try clear hsz); (try clear s₁); (try clear h_w); (try clear h_k); (try clear hE); (try clear hkc); omega) | omega), by (first | ((try clear min); (try clear x); (try clear eμ5); (try clear μ5); (try clear ex9); (try clear hz9); (try clear hb2); (try clear hb1); (try clear hck); (try clear mb3); (try clear hrn); (try clear hμn); (try clear μn); (try clear hmi); (try clear hqb); (try clear hsz); (try clear s₁); (try clear h_w); (try clear hE); (try clear hkc); omega) | omega)⟩ (by decide) dX8_goInward_200 (fun H locs hP hS => ?_)
              obtain ⟨μ6, eμ6⟩ : ∃ x : va_M, x = uz μ5 47 (i).toNat (min rn ((μ 46 (((k * ((μ q 5) + 1)) + i) + ((μ q 5) + 1)).toNat) + 1)) := ⟨_, rfl⟩
              rw [← eμ6] at hP
              exact W.vret hx hb hr (fun t9 ht9 hW9 => ⟨⟨μ6, rfl, (by
                                    try dsimp only
                                    rw [eμ6, eμ5]
                                    exact ⟨fr_uz (fr_uz fr_rfl (Or.inl rfl)) (Or.inr rfl), aB_uz (aB_uz hA (fun _ => by (first | ((try clear min); (try clear μ5); (try clear x); (try clear eμ6); (try clear μ6); (try clear eμ5); (try clear ex9); (try clear c162_); (try clear c142_); (try clear hrk); (try clear hμk); (try clear μk); (try clear hz9); (try clear hb1); (try clear hck); (try clear mb3); (try clear c130_); (try clear mb); (try clear hμn); (try clear c81_); (try clear c56_); (try clear c13_); (try clear hmi); (try clear hs1); (try clear hqf); (try clear hrm); (try clear hqb); (try clear hsz); (try clear s₁); (try clear h_w); (try clear h_k); (try clear h_i); (try clear hE); (try clear hkc); omega) | omega))) (fun _ => by (first | ((try clear min); (try clear μ5); (try clear x); (try clear eμ6); (try clear μ6); (try clear eμ5); (try clear ex9); (try clear c162_); (try clear c142_); (try clear hrk); (try clear hμk); (try clear μk); (try clear hz9); (try clear hb1); (try clear hck); (try clear mb3); (try clear c130_); (try clear mb); (try clear hμn); (try clear c81_); (try clear c56_); (try clear c13_); (try clear hmi); (try clear hs1); (try clear hqf); (try clear hrm); (try clear hqb); (try clear hsz); (try clear s₁); (try clear h_w); (try clear h_k); (try clear h_i); (try clear hE); (try clear hkc); omega) | omega))⟩), by rw [ht9]; exact hP, va_K.moved hW9.alike hK⟩, hS.F ht9⟩) hS.2.2 dX8_goInward_201
          · refine lv_aload_n hx hb dX8_goInward_145 rfl (lv_at hl 4 rfl) ?_
            refine fz_get (D := (dC, dI)) (ci := 8) (v := .ref (h0 + 46)) (C := RX8) (T := TX8) (N := 2) hx hb hts inG8 hown hK hP (k := 45) (by decide) (F := (sF45 h0)) sE_45 rfl 0 (by decide) (hts _ k211) (fun _ h9 => h9) rfl dX8_goInward_146 ?_
            refine lv_iload hx hb dX8_goInward_149 (lv_at hl 1 rfl) ?_
            refine lv_iload hx hb dX8_goInward_151 (lv_at hl 2 rfl) ?_
            refine lv_iadd hx hb dX8_goInward_153 ?_
            refine lv_topi (fun x9 ex9 => ?_)
            obtain rfl : x9 = iZ (((k * ((μ q 5) + 1)) + i) + ((μ q 5) + 1)) := ex9.trans (iZ_add _ _)
            refine lv_iconst (v := iZ 1) hx hb dX8_goInward_154 rfl ?_
            refine lv_iadd hx hb dX8_goInward_155 ?_
            refine lv_topi (fun x9 ex9 => ?_)
            obtain rfl : x9 = iZ ((((k * ((μ q 5) + 1)) + i) + ((μ q 5) + 1)) + 1) := ex9.trans (iZ_add _ _)
            refine fz_ld (k := 46) (n := 67161) hx hb hK hP 0 (by decide) sE_46 rfl ⟨by (first | ((try clear ex9); (try clear c142_); (try clear hrk); (try clear hμk); (try clear rk); (try clear μk); (try clear hz9); (try clear hb2); (try clear hb1); (try clear hck); (try clear mb3); (try clear c130_); (try clear hrn); (try clear hμn); (try clear μn); (try clear c81_); (try clear c56_); (try clear c13_); (try clear hs1); (try clear hqf); (try clear hrm); (try clear hqb); (try clear hsz); (try clear s₁); (try clear h_w); (try clear h_k); (try clear hE); (try clear hkc); omega) | omega), by (first | ((try clear ex9); (try clear hz9); (try clear hb2); (try clear hb1); (try clear hck); (try clear hrn); (try clear hμn); (try clear μn); (try clear hmi); (try clear hqb); (try clear hsz); (try clear s₁); (try clear hE); (try clear hkc); omega) | omega)⟩ (by decide) dX8_goInward_156 ?_
            refine lv_istore (lv' := [(10, .int (iZ (μ 46 ((((k * ((μ q 5) + 1)) + i) + ((μ q 5) + 1)) + 1).toNat))), (9, .int (iZ ((k * ((μ q 5) + 1)) + i))), (8, .int (iZ ((μ q 5) + 1))), (7, .int (iZ (μ (q + 1) (i).toNat))), (0, .ref (h0 + 45)), (1, .ref (h0 + q)), (2, .int (iZ (i))), (3, .ref (h0 + kc)), (4, .int (iZ (k))), (5, .int (iZ (n))), (6, .int (iZ (hw)))]) hx hb dX8_goInward_157 hl (by decide) rfl (fun ls hl => ?_)
            refine lv_iload hx hb dX8_goInward_159 (lv_at hl 10 rfl) ?_
            refine lv_iconst (v := iZ 1) hx hb dX8_goInward_161 rfl ?_
            refine fz_icmp_ne (tgt := 184) (by constructor <;> (first | ((try clear ex9); (try clear c142_); (try clear hrk); (try clear hμk); (try clear rk); (try clear μk); (try clear hz9); (try clear hb2); (try clear hb1); (try clear hck); (try clear mb3); (try clear c130_); (try clear mb); (try clear hrn); (try clear hμn); (try clear μn); (try clear c81_); (try clear c56_); (try clear c13_); (try clear hmi); (try clear hs1); (try clear hqf); (try clear hrm); (try clear hqb); (try clear hsz); (try clear s₁); (try clear h_k); (try clear h_i); (try clear hE); (try clear hkc); omega) | omega)) (by decide) hx hb dX8_goInward_162 (by decide) (fun c162_ => ?_) (fun c162_ => ?_)
            · refine lv_aload_n hx hb dX8_goInward_184 rfl (lv_at hl 4 rfl) ?_
              refine fz_get (D := (dC, dI)) (ci := 8) (v := .ref (h0 + 46)) (C := RX8) (T := TX8) (N := 2) hx hb hts inG8 hown hK hP (k := 45) (by decide) (F := (sF45 h0)) sE_45 rfl 0 (by decide) (hts _ k211) (fun _ h9 => h9) rfl dX8_goInward_185 ?_
              refine lv_iload hx hb dX8_goInward_188 (lv_at hl 1 rfl) ?_
              refine lv_iload hx hb dX8_goInward_190 (lv_at hl 0 rfl) ?_
              refine fz_st (k := 46) (n := 67161) (i := ((k * ((μ q 5) + 1)) + i)) (z := (μ 46 ((((k * ((μ q 5) + 1)) + i) + ((μ q 5) + 1)) + 1).toNat)) hx hb hK hP fA_in hS 0 (by decide) sE_46 rfl ⟨by (first | ((try clear c162_); (try clear ex9); (try clear c142_); (try clear hrk); (try clear hμk); (try clear rk); (try clear μk); (try clear hz9); (try clear hb2); (try clear hb1); (try clear hck); (try clear mb3); (try clear c130_); (try clear hrn); (try clear hμn); (try clear μn); (try clear c81_); (try clear c56_); (try clear c13_); (try clear hmi); (try clear hs1); (try clear hqf); (try clear hrm); (try clear hqb); (try clear hsz); (try clear s₁); (try clear h_w); (try clear h_k); (try clear hE); (try clear hkc); omega) | omega), by (first | ((try clear c162_); (try clear ex9); (try clear c142_); (try clear hrk); (try clear hμk); (try clear rk); (try clear μk); (try clear hz9); (try clear hb2); (try clear hb1); (try clear hck); (try clear c130_); (try clear mb); (try clear hrn); (try clear hμn); (try clear μn); (try clear c81_); (try clear c56_); (try clear c13_); (try clear hmi); (try clear hs1); (try clear hqf); (try clear hrm); (try clear hqb); (try clear hsz); (try clear s₁); (try clear h_w); (try clear h_k); (try clear hE); (try clear hkc); omega) | omega)⟩ (by decide) dX8_goInward_192 (fun H locs hP hS => ?_)
              obtain ⟨μ7, eμ7⟩ : ∃ x : va_M, x = uz μ 46 ((k * ((μ q 5) + 1)) + i).toNat (μ 46 ((((k * ((μ q 5) + 1)) + i) + ((μ q 5) + 1)) + 1).toNat) := ⟨_, rfl⟩
              rw [← eμ7] at hP
              refine lv_aload_n hx hb dX8_goInward_193 rfl (lv_at hl 4 rfl) ?_
              refine fz_get (D := (dC, dI)) (ci := 8) (v := .ref (h0 + 47)) (C := RX8) (T := TX8) (N := 2) hx hb hts inG8 hown hK hP (k := 45) (by decide) (F := (sF45 h0)) sE_45 rfl 1 (by decide) (hts _ k212) (fun _ h9 => h9) rfl dX8_goInward_194 ?_
              refine lv_iload_n hx hb dX8_goInward_197 rfl (lv_at hl 6 rfl) ?_
              refine lv_iload hx hb dX8_goInward_198 (lv_at hl 0 rfl) ?_
              refine fz_st (k := 47) (n := 1101) (i := i) (z := (μ 46 ((((k * ((μ q 5) + 1)) + i) + ((μ q 5) + 1)) + 1).toNat)) hx hb hK hP fA_in hS 0 (by decide) sE_47 rfl ⟨by (first | ((try clear x); (try clear eμ7); (try clear μ7); (try clear c162_); (try clear ex9); (try clear c142_); (try clear hrk); (try clear hμk); (try clear rk); (try clear μk); (try clear hz9); (try clear hb2); (try clear hb1); (try clear hck); (try clear mb3); (try clear c130_); (try clear mb); (try clear hrn); (try clear hμn); (try clear μn); (try clear c81_); (try clear c56_); (try clear c13_); (try clear hmi); (try clear hs1); (try clear hqf); (try clear hrm); (try clear hqb); (try clear hsz); (try clear s₁); (try clear h_w); (try clear h_k); (try clear hE); (try clear hkc); omega) | omega), by (first | ((try clear x); (try clear eμ7); (try clear μ7); (try clear ex9); (try clear hz9); (try clear hb2); (try clear hb1); (try clear hck); (try clear mb3); (try clear hrn); (try clear hμn); (try clear μn); (try clear hmi); (try clear hqb); (try clear hsz); (try clear s₁); (try clear hE); (try clear hkc); omega) | omega)⟩ (by decide) dX8_goInward_200 (fun H locs hP hS => ?_)
              obtain ⟨μ8, eμ8⟩ : ∃ x : va_M, x = uz μ7 47 (i).toNat (μ 46 ((((k * ((μ q 5) + 1)) + i) + ((μ q 5) + 1)) + 1).toNat) := ⟨_, rfl⟩
              rw [← eμ8] at hP
              exact W.vret hx hb hr (fun t9 ht9 hW9 => ⟨⟨μ8, rfl, (by
                                    try dsimp only
                                    rw [eμ8, eμ7]
                                    exact ⟨fr_uz (fr_uz fr_rfl (Or.inl rfl)) (Or.inr rfl), aB_uz (aB_uz hA (fun _ => by (first | ((try clear μ7); (try clear x); (try clear eμ8); (try clear μ8); (try clear eμ7); (try clear c162_); (try clear ex9); (try clear c142_); (try clear hrk); (try clear hμk); (try clear rk); (try clear μk); (try clear hz9); (try clear hb2); (try clear hck); (try clear mb3); (try clear c130_); (try clear mb); (try clear hrn); (try clear hμn); (try clear μn); (try clear c81_); (try clear c56_); (try clear c13_); (try clear hmi); (try clear hs1); (try clear hqf); (try clear hrm); (try clear hqb); (try clear hsz); (try clear s₁); (try clear h_w); (try clear h_k); (try clear h_i); (try clear hE); (try clear hkc); omega) | omega))) (fun _ => by (first | ((try clear μ7); (try clear x); (try clear eμ8); (try clear μ8); (try clear eμ7); (try clear c162_); (try clear ex9); (try clear c142_); (try clear hrk); (try clear hμk); (try clear rk); (try clear μk); (try clear hz9); (try clear hb2); (try clear hck); (try clear mb3); (try clear c130_); (try clear mb); (try clear hrn); (try clear hμn); (try clear μn); (try clear c81_); (try clear c56_); (try clear c13_); (try clear hmi); (try clear hs1); (try clear hqf); (try clear hrm); (try clear hqb); (try clear hsz); (try clear s₁); (try clear h_w); (try clear h_k); (try clear h_i); (try clear hE); (try clear hkc); omega) | omega))⟩), by rw [ht9]; exact hP, va_K.moved hW9.alike hK⟩, hS.F ht9⟩) hS.2.2 dX8_goInward_201
            · refine lv_iload hx hb dX8_goInward_165 (lv_at hl 0 rfl) ?_
              refine lv_aload_n hx hb dX8_goInward_167 rfl (lv_at hl 4 rfl) ?_
              refine fz_get (D := (dC, dI)) (ci := 8) (v := .ref (h0 + 46)) (C := RX8) (T := TX8) (N := 2) hx hb hts inG8 hown hK hP (k := 45) (by decide) (F := (sF45 h0)) sE_45 rfl 0 (by decide) (hts _ k211) (fun _ h9 => h9) rfl dX8_goInward_168 ?_
              refine lv_iload hx hb dX8_goInward_171 (lv_at hl 1 rfl) ?_
              refine lv_iload hx hb dX8_goInward_173 (lv_at hl 2 rfl) ?_
              refine lv_iadd hx hb dX8_goInward_175 ?_
              refine lv_topi (fun x9 ex9 => ?_)
              obtain rfl : x9 = iZ (((k * ((μ q 5) + 1)) + i) + ((μ q 5) + 1)) := ex9.trans (iZ_add _ _)
              refine fz_ld (k := 46) (n := 67161) hx hb hK hP 0 (by decide) sE_46 rfl ⟨by (first | ((try clear ex9); (try clear c162_); (try clear c142_); (try clear hrk); (try clear hμk); (try clear rk); (try clear μk); (try clear hz9); (try clear hb2); (try clear hb1); (try clear hck); (try clear mb3); (try clear c130_); (try clear hrn); (try clear hμn); (try clear μn); (try clear c81_); (try clear c56_); (try clear c13_); (try clear hs1); (try clear hqf); (try clear hrm); (try clear hqb); (try clear hsz); (try clear s₁); (try clear h_w); (try clear h_k); (try clear hE); (try clear hkc); omega) | omega), by (first | ((try clear ex9); (try clear hz9); (try clear hb2); (try clear hb1); (try clear hck); (try clear hrn); (try clear hμn); (try clear μn); (try clear hmi); (try clear hqb); (try clear hsz); (try clear s₁); (try clear h_w); (try clear hE); (try clear hkc); omega) | omega)⟩ (by decide) dX8_goInward_176 ?_
              refine lv_iconst (v := iZ 1) hx hb dX8_goInward_177 rfl ?_
              refine lv_iadd hx hb dX8_goInward_178 ?_
              refine lv_topi (fun x9 ex9 => ?_)
              obtain rfl : x9 = iZ ((μ 46 (((k * ((μ q 5) + 1)) + i) + ((μ q 5) + 1)).toNat) + 1) := ex9.trans (iZ_add _ _)
              refine va_mmin hx hb (hml.trans hl.1.symm) hown (hts _ k562) (hts _ k501) (hts _ k4) (hts _ k502) (Nat.le_of_ble_eq_true rfl) (Nat.le_of_ble_eq_true rfl) (Nat.le_of_ble_eq_true rfl) (Nat.le_of_ble_eq_true rfl) dX8_goInward_179 ?_
              refine lv_topi (fun x9 ex9 => ?_)
              obtain rfl : x9 = iZ (min (μ 46 ((((k * ((μ q 5) + 1)) + i) + ((μ q 5) + 1)) + 1).toNat) ((μ 46 (((k * ((μ q 5) + 1)) + i) + ((μ q 5) + 1)).toNat) + 1)) := ex9.trans (iZ_mn (by constructor <;> (first | ((try clear ex9); (try clear c162_); (try clear c142_); (try clear hrk); (try clear hμk); (try clear rk); (try clear μk); (try clear hz9); (try clear hb2); (try clear hck); (try clear mb3); (try clear c130_); (try clear mb); (try clear hrn); (try clear hμn); (try clear μn); (try clear c81_); (try clear c56_); (try clear c13_); (try clear hmi); (try clear hs1); (try clear hqf); (try clear hrm); (try clear hqb); (try clear hsz); (try clear s₁); (try clear h_w); (try clear h_k); (try clear h_i); (try clear hE); (try clear hkc); omega) | omega)) (by constructor <;> (first | ((try clear ex9); (try clear c162_); (try clear c142_); (try clear hrk); (try clear hμk); (try clear rk); (try clear μk); (try clear hz9); (try clear hb1); (try clear hck); (try clear mb3); (try clear c130_); (try clear mb); (try clear hrn); (try clear hμn); (try clear μn); (try clear c81_); (try clear c56_); (try clear c13_); (try clear hmi); (try clear hs1); (try clear hqf); (try clear hrm); (try clear hqb); (try clear hsz); (try clear s₁); (try clear h_w); (try clear h_k); (try clear h_i); (try clear hE); (try clear hkc); omega) | omega)))
              refine lv_istore (lv' := [(10, .int (iZ (min (μ 46 ((((k * ((μ q 5) + 1)) + i) + ((μ q 5) + 1)) + 1).toNat) ((μ 46 (((k * ((μ q 5) + 1)) + i) + ((μ q 5) + 1)).toNat) + 1)))), (9, .int (iZ ((k * ((μ q 5) + 1)) + i))), (8, .int (iZ ((μ q 5) + 1))), (7, .int (iZ (μ (q + 1) (i).toNat))), (0, .ref (h0 + 45)), (1, .ref (h0 + q)), (2, .int (iZ (i))), (3, .ref (h0 + kc)), (4, .int (iZ (k))), (5, .int (iZ (n))), (6, .int (iZ (hw)))]) hx hb dX8_goInward_182 hl (by decide) rfl (fun ls hl => ?_)
              refine lv_aload_n hx hb dX8_goInward_184 rfl (lv_at hl 4 rfl) ?_
              refine fz_get (D := (dC, dI)) (ci := 8) (v := .ref (h0 + 46)) (C := RX8) (T := TX8) (N := 2) hx hb hts inG8 hown hK hP (k := 45) (by decide) (F := (sF45 h0)) sE_45 rfl 0 (by decide) (hts _ k211) (fun _ h9 => h9) rfl dX8_goInward_185 ?_
              refine lv_iload hx hb dX8_goInward_188 (lv_at hl 1 rfl) ?_
              refine lv_iload hx hb dX8_goInward_190 (lv_at hl 0 rfl) ?_
              refine fz_st (k := 46) (n := 67161) (i := ((k * ((μ q 5) + 1)) + i)) (z := (min (μ 46 ((((k * ((μ q 5) + 1)) + i) + ((μ q 5) + 1)) + 1).toNat) ((μ 46 (((k * ((μ q 5) + 1)) + i) + ((μ q 5) + 1)).toNat) + 1))) hx hb hK hP fA_in hS 0 (by decide) sE_46 rfl ⟨by (first | ((try clear ex9); (try clear c162_); (try clear c142_); (try clear hrk); (try clear hμk); (try clear rk); (try clear μk); (try clear hz9); (try clear hb2); (try clear hb1); (try clear hck); (try clear mb3); (try clear c130_); (try clear hrn); (try clear hμn); (try clear μn); (try clear c81_); (try clear c56_); (try clear c13_); (try clear hmi); (try clear hs1); (try clear hqf); (try clear hrm); (try clear hqb); (try clear hsz); (try clear s₁); (try clear h_w); (try clear h_k); (try clear hE); (try clear hkc); omega) | omega), by (first | ((try clear ex9); (try clear c162_); (try clear c142_); (try clear hrk); (try clear hμk); (try clear rk); (try clear μk); (try clear hz9); (try clear hb2); (try clear hb1); (try clear hck); (try clear c130_); (try clear mb); (try clear hrn); (try clear hμn); (try clear μn); (try clear c81_); (try clear c56_); (try clear c13_); (try clear hmi); (try clear hs1); (try clear hqf); (try clear hrm); (try clear hqb); (try clear hsz); (try clear s₁); (try clear h_w); (try clear h_k); (try clear hE); (try clear hkc); omega) | omega)⟩ (by decide) dX8_goInward_192 (fun H locs hP hS => ?_)
              obtain ⟨μ10, eμ10⟩ : ∃ x : va_M, x = uz μ 46 ((k * ((μ q 5) + 1)) + i).toNat (min (μ 46 ((((k * ((μ q 5) + 1)) + i) + ((μ q 5) + 1)) + 1).toNat) ((μ 46 (((k * ((μ q 5) + 1)) + i) + ((μ q 5) + 1)).toNat) + 1)) := ⟨_, rfl⟩
              rw [← eμ10] at hP
              refine lv_aload_n hx hb dX8_goInward_193 rfl (lv_at hl 4 rfl) ?_
              refine fz_get (D := (dC, dI)) (ci := 8) (v := .ref (h0 + 47)) (C := RX8) (T := TX8) (N := 2) hx hb hts inG8 hown hK hP (k := 45) (by decide) (F := (sF45 h0)) sE_45 rfl 1 (by decide) (hts _ k212) (fun _ h9 => h9) rfl dX8_goInward_194 ?_
              refine lv_iload_n hx hb dX8_goInward_197 rfl (lv_at hl 6 rfl) ?_
              refine lv_iload hx hb dX8_goInward_198 (lv_at hl 0 rfl) ?_
              refine fz_st (k := 47) (n := 1101) (i := i) (z := (min (μ 46 ((((k * ((μ q 5) + 1)) + i) + ((μ q 5) + 1)) + 1).toNat) ((μ 46 (((k * ((μ q 5) + 1)) + i) + ((μ q 5) + 1)).toNat) + 1))) hx hb hK hP fA_in hS 0 (by decide) sE_47 rfl ⟨by (first | ((try clear min); (try clear x); (try clear eμ10); (try clear μ10); (try clear ex9); (try clear c162_); (try clear c142_); (try clear hrk); (try clear hμk); (try clear rk); (try clear μk); (try clear hz9); (try clear hb2); (try clear hb1); (try clear hck); (try clear mb3); (try clear c130_); (try clear mb); (try clear hrn); (try clear hμn); (try clear μn); (try clear c81_); (try clear c56_); (try clear c13_); (try clear hmi); (try clear hs1); (try clear hqf); (try clear hrm); (try clear hqb); (try clear hsz); (try clear s₁); (try clear h_w); (try clear h_k); (try clear hE); (try clear hkc); omega) | omega), by (first | ((try clear min); (try clear x); (try clear eμ10); (try clear μ10); (try clear ex9); (try clear hz9); (try clear hb2); (try clear hb1); (try clear hck); (try clear mb3); (try clear hrn); (try clear hμn); (try clear μn); (try clear hmi); (try clear hqb); (try clear hsz); (try clear s₁); (try clear h_w); (try clear hE); (try clear hkc); omega) | omega)⟩ (by decide) dX8_goInward_200 (fun H locs hP hS => ?_)
              obtain ⟨μ11, eμ11⟩ : ∃ x : va_M, x = uz μ10 47 (i).toNat (min (μ 46 ((((k * ((μ q 5) + 1)) + i) + ((μ q 5) + 1)) + 1).toNat) ((μ 46 (((k * ((μ q 5) + 1)) + i) + ((μ q 5) + 1)).toNat) + 1)) := ⟨_, rfl⟩
              rw [← eμ11] at hP
              exact W.vret hx hb hr (fun t9 ht9 hW9 => ⟨⟨μ11, rfl, (by
                                    try dsimp only
                                    rw [eμ11, eμ10]
                                    exact ⟨fr_uz (fr_uz fr_rfl (Or.inl rfl)) (Or.inr rfl), aB_uz (aB_uz hA (fun _ => by (first | ((try clear min); (try clear μ10); (try clear x); (try clear eμ11); (try clear μ11); (try clear eμ10); (try clear ex9); (try clear c162_); (try clear c142_); (try clear hrk); (try clear hμk); (try clear rk); (try clear μk); (try clear hz9); (try clear hck); (try clear mb3); (try clear c130_); (try clear mb); (try clear hrn); (try clear hμn); (try clear μn); (try clear c81_); (try clear c56_); (try clear c13_); (try clear hmi); (try clear hs1); (try clear hqf); (try clear hrm); (try clear hqb); (try clear hsz); (try clear s₁); (try clear h_w); (try clear h_k); (try clear h_i); (try clear hE); (try clear hkc); omega) | omega))) (fun _ => by (first | ((try clear min); (try clear μ10); (try clear x); (try clear eμ11); (try clear μ11); (try clear eμ10); (try clear ex9); (try clear c162_); (try clear c142_); (try clear hrk); (try clear hμk); (try clear rk); (try clear μk); (try clear hz9); (try clear hck); (try clear mb3); (try clear c130_); (try clear mb); (try clear hrn); (try clear hμn); (try clear μn); (try clear c81_); (try clear c56_); (try clear c13_); (try clear hmi); (try clear hs1); (try clear hqf); (try clear hrm); (try clear hqb); (try clear hsz); (try clear s₁); (try clear h_w); (try clear h_k); (try clear h_i); (try clear hE); (try clear hkc); omega) | omega))⟩), by rw [ht9]; exact hP, va_K.moved hW9.alike hK⟩, hS.F ht9⟩) hS.2.2 dX8_goInward_201
      · refine lv_aload_n hx hb dX8_goInward_84 rfl (lv_at hl 1 rfl) ?_
        refine fz_get (D := (dC, dI)) (ci := 8) (v := .ref (h0 + 47)) (C := RX8) (T := TX8) (N := 2) hx hb hts inG8 hown hK hP (k := 45) (by decide) (F := (sF45 h0)) sE_45 rfl 1 (by decide) (hts _ k212) (fun _ h9 => h9) rfl dX8_goInward_85 ?_
        refine lv_iload_n hx hb dX8_goInward_88 rfl (lv_at hl 3 rfl) ?_
        refine lv_iload hx hb dX8_goInward_89 (lv_at hl 5 rfl) ?_
        refine lv_iload hx hb dX8_goInward_91 (lv_at hl 7 rfl) ?_
        refine va_calli (va_runS (As := [.int (iZ (k)), .int (iZ (hw))]) (rest := [.int (iZ (i)), .ref (h0 + 47)]) ⟨hx, hb, hml, hown, hts⟩ (s_Wnothing l dC dI cI cZ cII cIII h0 s.heap.size μ (k) (hw) (by constructor <;> (first | ((try clear c81_); (try clear c56_); (try clear c13_); (try clear hmi); (try clear hs1); (try clear hqf); (try clear hrm); (try clear hqb); (try clear hsz); (try clear s₁); (try clear h_w); (try clear h_i); (try clear hE); (try clear hkc); omega) | omega)) (by constructor <;> (first | ((try clear c81_); (try clear c56_); (try clear c13_); (try clear hmi); (try clear hs1); (try clear hqf); (try clear hrm); (try clear hqb); (try clear hsz); (try clear s₁); (try clear h_k); (try clear h_i); (try clear hE); (try clear hkc); omega) | omega))) (cwS 2 hts (gS_G k550 k551 k8 k552) rfl rfl rfl (by decide +kernel) ⟨Nat.le_of_ble_eq_true rfl, Nat.le_of_ble_eq_true rfl⟩) ⟨fun a U g mk q => by obtain ⟨q0, q1, qP, qK, qM⟩ := q; exact ⟨q0, q1, qP, va_K.moved (u := U) (U := U.calling g mk a) (Vm.Alike.refl U.vm) qK, qM⟩, fun U hU hW => ⟨rfl, by rw [hU], by rw [hU]; exact hP, va_K.moved hW.alike hK, xM_warm hW hM⟩⟩ rfl rfl hl.1 rfl (lv_room (Nat.le_of_ble_eq_true rfl)) dX8_goInward_93 ⟨Nat.le_of_ble_eq_true rfl, Nat.le_of_ble_eq_true rfl⟩) hS (fun q _ h => fA_le hS.1 q h) (fA_le hS.1) (fun r9 u9 t9 H1 locs ht9 hvm9 hw9 hB9 hz9 hk9 hS => ?_)
        obtain ⟨μn, rn⟩ := u9
        obtain ⟨hP, -⟩ := hB9
        rw [ht9] at hP
        generalize H1 = H at hP hS ⊢
        obtain ⟨e9, hw9⟩ := hw9
        have e9 : r9 = iZ rn := e9
        subst e9
        simp only at hP hw9
        have hμn := hw9; clear hw9
        rw [hμn.1] at hP; have hμn := hμn.2
        have hrn := nb_b hμn (by (first | ((try clear hrn); (try clear hμn); (try clear μn); (try clear hz9); (try clear c81_); (try clear c56_); (try clear c13_); (try clear hmi); (try clear hs1); (try clear hqf); (try clear hrm); (try clear hqb); (try clear hsz); (try clear s₁); (try clear h_w); (try clear h_i); (try clear hE); (try clear hkc); omega) | omega))
        refine fz_st (k := 47) (n := 1101) (i := i) (z := rn) hx hb hK hP fA_in hS 0 (by decide) sE_47 rfl ⟨by (first | ((try clear hrn); (try clear hμn); (try clear μn); (try clear hz9); (try clear c81_); (try clear c56_); (try clear c13_); (try clear hmi); (try clear hs1); (try clear hqf); (try clear hrm); (try clear hqb); (try clear hsz); (try clear s₁); (try clear h_w); (try clear h_k); (try clear hE); (try clear hkc); omega) | omega), by (first | ((try clear hrn); (try clear hμn); (try clear μn); (try clear hz9); (try clear hmi); (try clear hs1); (try clear hqb); (try clear hsz); (try clear s₁); (try clear h_k); (try clear hE); (try clear hkc); omega) | omega)⟩ (by decide) dX8_goInward_96 (fun H locs hP hS => ?_)
        obtain ⟨μ12, eμ12⟩ : ∃ x : va_M, x = uz μ 47 (i).toNat (rn) := ⟨_, rfl⟩
        rw [← eμ12] at hP
        refine lv_goto (tgt := 201) hx hb dX8_goInward_97 (by decide) ?_
        exact W.vret hx hb hr (fun t9 ht9 hW9 => ⟨⟨μ12, rfl, (by
                        try dsimp only
                        rw [eμ12]
                        exact ⟨fr_uz fr_rfl (Or.inr rfl), aB_uz hA (fun _ => by (first | ((try clear x); (try clear eμ12); (try clear μ12); (try clear hμn); (try clear hz9); (try clear c81_); (try clear c56_); (try clear c13_); (try clear hmi); (try clear hs1); (try clear hqf); (try clear hrm); (try clear hqb); (try clear hsz); (try clear s₁); (try clear h_w); (try clear h_k); (try clear h_i); (try clear hE); (try clear hkc); omega) | omega))⟩), by rw [ht9]; exact hP, va_K.moved hW9.alike hK⟩, hS.F ht9⟩) hS.2.2 dX8_goInward_201
    · have ha1 := hA (i + 1).toNat
      refine lv_aload_n hx hb dX8_goInward_59 rfl (lv_at hl 1 rfl) ?_
      refine fz_get (D := (dC, dI)) (ci := 8) (v := .ref (h0 + 47)) (C := RX8) (T := TX8) (N := 2) hx hb hts inG8 hown hK hP (k := 45) (by decide) (F := (sF45 h0)) sE_45 rfl 1 (by decide) (hts _ k212) (fun _ h9 => h9) rfl dX8_goInward_60 ?_
      refine lv_iload_n hx hb dX8_goInward_63 rfl (lv_at hl 3 rfl) ?_
      refine lv_aload_n hx hb dX8_goInward_64 rfl (lv_at hl 1 rfl) ?_
      refine fz_get (D := (dC, dI)) (ci := 8) (v := .ref (h0 + 47)) (C := RX8) (T := TX8) (N := 2) hx hb hts inG8 hown hK hP (k := 45) (by decide) (F := (sF45 h0)) sE_45 rfl 1 (by decide) (hts _ k212) (fun _ h9 => h9) rfl dX8_goInward_65 ?_
      refine lv_iload_n hx hb dX8_goInward_68 rfl (lv_at hl 3 rfl) ?_
      refine lv_iconst (v := iZ 1) hx hb dX8_goInward_69 rfl ?_
      refine lv_iadd hx hb dX8_goInward_70 ?_
      refine lv_topi (fun x9 ex9 => ?_)
      obtain rfl : x9 = iZ (i + 1) := ex9.trans (iZ_add _ _)
      refine fz_ld (k := 47) (n := 1101) hx hb hK hP 0 (by decide) sE_47 rfl ⟨by (first | ((try clear ex9); (try clear ha1); (try clear c56_); (try clear c13_); (try clear hmi); (try clear hs1); (try clear hqf); (try clear hrm); (try clear hqb); (try clear hsz); (try clear s₁); (try clear h_w); (try clear h_k); (try clear hE); (try clear hkc); omega) | omega), by (first | ((try clear ex9); (try clear ha1); (try clear hmi); (try clear hs1); (try clear hqb); (try clear hsz); (try clear s₁); (try clear h_w); (try clear h_k); (try clear hE); (try clear hkc); omega) | omega)⟩ (by decide) dX8_goInward_71 ?_
      refine fz_st (k := 47) (n := 1101) (i := i) (z := (μ 47 (i + 1).toNat)) hx hb hK hP fA_in hS 0 (by decide) sE_47 rfl ⟨by (first | ((try clear ex9); (try clear ha1); (try clear c56_); (try clear c13_); (try clear hmi); (try clear hs1); (try clear hqf); (try clear hrm); (try clear hqb); (try clear hsz); (try clear s₁); (try clear h_w); (try clear h_k); (try clear hE); (try clear hkc); omega) | omega), by (first | ((try clear ex9); (try clear ha1); (try clear hmi); (try clear hs1); (try clear hqb); (try clear hsz); (try clear s₁); (try clear h_w); (try clear h_k); (try clear hE); (try clear hkc); omega) | omega)⟩ (by decide) dX8_goInward_72 (fun H locs hP hS => ?_)
      obtain ⟨μ13, eμ13⟩ : ∃ x : va_M, x = uz μ 47 (i).toNat (μ 47 (i + 1).toNat) := ⟨_, rfl⟩
      rw [← eμ13] at hP
      refine lv_goto (tgt := 201) hx hb dX8_goInward_73 (by decide) ?_
      exact W.vret hx hb hr (fun t9 ht9 hW9 => ⟨⟨μ13, rfl, (by
                    try dsimp only
                    rw [eμ13]
                    exact ⟨fr_uz fr_rfl (Or.inr rfl), aB_uz hA (fun _ => by (first | ((try clear x); (try clear eμ13); (try clear μ13); (try clear ex9); (try clear c56_); (try clear c13_); (try clear hmi); (try clear hs1); (try clear hqf); (try clear hrm); (try clear hqb); (try clear hsz); (try clear s₁); (try clear h_w); (try clear h_k); (try clear h_i); (try clear hE); (try clear hkc); omega) | omega))⟩), by rw [ht9]; exact hP, va_K.moved hW9.alike hK⟩, hS.F ht9⟩) hS.2.2 dX8_goInward_201
  · have ha1 := hA (i + 1).toNat
    have ha2 := hA (μ (q + 2) i.toNat + 1).toNat
    refine lv_aload_n hx hb dX8_goInward_16 rfl (lv_at hl 1 rfl) ?_
    refine fz_get (D := (dC, dI)) (ci := 8) (v := .ref (h0 + 47)) (C := RX8) (T := TX8) (N := 2) hx hb hts inG8 hown hK hP (k := 45) (by decide) (F := (sF45 h0)) sE_45 rfl 1 (by decide) (hts _ k212) (fun _ h9 => h9) rfl dX8_goInward_17 ?_
    refine lv_iload_n hx hb dX8_goInward_20 rfl (lv_at hl 3 rfl) ?_
    refine lv_aload_n hx hb dX8_goInward_21 rfl (lv_at hl 1 rfl) ?_
    refine fz_get (D := (dC, dI)) (ci := 8) (v := .ref (h0 + 47)) (C := RX8) (T := TX8) (N := 2) hx hb hts inG8 hown hK hP (k := 45) (by decide) (F := (sF45 h0)) sE_45 rfl 1 (by decide) (hts _ k212) (fun _ h9 => h9) rfl dX8_goInward_22 ?_
    refine lv_iload_n hx hb dX8_goInward_25 rfl (lv_at hl 3 rfl) ?_
    refine lv_iconst (v := iZ 1) hx hb dX8_goInward_26 rfl ?_
    refine lv_iadd hx hb dX8_goInward_27 ?_
    refine lv_topi (fun x9 ex9 => ?_)
    obtain rfl : x9 = iZ (i + 1) := ex9.trans (iZ_add _ _)
    refine fz_ld (k := 47) (n := 1101) hx hb hK hP 0 (by decide) sE_47 rfl ⟨by (first | ((try clear ex9); (try clear ha2); (try clear ha1); (try clear c13_); (try clear hmi); (try clear hs1); (try clear hqf); (try clear hrm); (try clear hqb); (try clear hsz); (try clear s₁); (try clear h_w); (try clear h_k); (try clear hE); (try clear hkc); omega) | omega), by (first | ((try clear ex9); (try clear ha2); (try clear ha1); (try clear c13_); (try clear hmi); (try clear hs1); (try clear hqb); (try clear hsz); (try clear s₁); (try clear h_w); (try clear h_k); (try clear hE); (try clear hkc); omega) | omega)⟩ (by decide) dX8_goInward_28 ?_
    refine lv_aload_n hx hb dX8_goInward_29 rfl (lv_at hl 1 rfl) ?_
    refine fz_get (D := (dC, dI)) (ci := 8) (v := .ref (h0 + 47)) (C := RX8) (T := TX8) (N := 2) hx hb hts inG8 hown hK hP (k := 45) (by decide) (F := (sF45 h0)) sE_45 rfl 1 (by decide) (hts _ k212) (fun _ h9 => h9) rfl dX8_goInward_30 ?_
    refine lv_aload_n hx hb dX8_goInward_33 rfl (lv_at hl 2 rfl) ?_
    refine fz_get (D := (dC, dI)) (ci := 4) (v := .ref (h0 + (q + 2))) (C := RX4) (T := TX4) (N := 8) hx hb hts inG4 hown hK hP (k := q) (by (first | ((try clear ex9); (try clear ha2); (try clear ha1); (try clear c13_); (try clear hmi); (try clear hs1); (try clear hqf); (try clear hrm); (try clear hsz); (try clear s₁); (try clear h_w); (try clear h_k); (try clear h_i); (try clear hE); (try clear hkc); omega) | omega)) (F := (sRF h0 q)) (sE_rowO hq) rfl 1 (by decide) (hts _ k86) (fun _ h9 => h9) rfl dX8_goInward_34 ?_
    refine lv_iload_n hx hb dX8_goInward_37 rfl (lv_at hl 3 rfl) ?_
    refine fz_ld (k := (q + 2)) (n := rm) hx hb hK hP 0 (by (first | ((try clear ex9); (try clear ha2); (try clear ha1); (try clear c13_); (try clear hmi); (try clear hs1); (try clear hqf); (try clear hrm); (try clear hsz); (try clear s₁); (try clear h_w); (try clear h_k); (try clear h_i); (try clear hE); (try clear hkc); omega) | omega)) (sE_rowA (r := 2) hq (by decide)) rfl ⟨by (first | ((try clear ex9); (try clear ha2); (try clear ha1); (try clear c13_); (try clear hmi); (try clear hs1); (try clear hqf); (try clear hrm); (try clear hqb); (try clear hsz); (try clear s₁); (try clear h_w); (try clear h_k); (try clear hE); (try clear hkc); omega) | omega), by (first | ((try clear ex9); (try clear ha2); (try clear ha1); (try clear c13_); (try clear hmi); (try clear hs1); (try clear hqf); (try clear hqb); (try clear hsz); (try clear s₁); (try clear h_w); (try clear h_k); (try clear hE); (try clear hkc); omega) | omega)⟩ (by (first | ((try clear ex9); (try clear ha2); (try clear ha1); (try clear c13_); (try clear hmi); (try clear hs1); (try clear hqb); (try clear hsz); (try clear s₁); (try clear h_w); (try clear h_k); (try clear h_i); (try clear hE); (try clear hkc); omega) | omega)) dX8_goInward_38 ?_
    refine lv_iconst (v := iZ 1) hx hb dX8_goInward_39 rfl ?_
    refine lv_iadd hx hb dX8_goInward_40 ?_
    refine lv_topi (fun x9 ex9 => ?_)
    obtain rfl : x9 = iZ ((μ (q + 2) (i).toNat) + 1) := ex9.trans (iZ_add _ _)
    refine fz_ld (k := 47) (n := 1101) hx hb hK hP 0 (by decide) sE_47 rfl ⟨by (first | ((try clear ex9); (try clear ha2); (try clear ha1); (try clear c13_); (try clear hs1); (try clear hqf); (try clear hrm); (try clear hqb); (try clear hsz); (try clear s₁); (try clear h_w); (try clear h_k); (try clear h_i); (try clear hE); (try clear hkc); omega) | omega), by (first | ((try clear ex9); (try clear ha2); (try clear ha1); (try clear c13_); (try clear hs1); (try clear hqb); (try clear hsz); (try clear s₁); (try clear h_w); (try clear h_k); (try clear h_i); (try clear hE); (try clear hkc); omega) | omega)⟩ (by decide) dX8_goInward_41 ?_
    refine lv_iload hx hb dX8_goInward_42 (lv_at hl 7 rfl) ?_
    refine va_calli (va_runS (As := [.int (iZ (μ 47 (i + 1).toNat)), .int (iZ (μ 47 ((μ (q + 2) (i).toNat) + 1).toNat)), .int (iZ (hw))]) (rest := [.int (iZ (i)), .ref (h0 + 47)]) ⟨hx, hb, hml, hown, hts⟩ (s_Weither l dC dI cI cZ cII cIII h0 s.heap.size μ (μ 47 (i + 1).toNat) (μ 47 ((μ (q + 2) (i).toNat) + 1).toNat) (hw) (by constructor <;> (first | ((try clear ex9); (try clear ha2); (try clear c13_); (try clear hmi); (try clear hs1); (try clear hqf); (try clear hrm); (try clear hqb); (try clear hsz); (try clear s₁); (try clear h_w); (try clear h_k); (try clear h_i); (try clear hE); (try clear hkc); omega) | omega)) (by constructor <;> (first | ((try clear ex9); (try clear ha1); (try clear c13_); (try clear hmi); (try clear hs1); (try clear hqf); (try clear hrm); (try clear hqb); (try clear hsz); (try clear s₁); (try clear h_w); (try clear h_k); (try clear h_i); (try clear hE); (try clear hkc); omega) | omega)) (by constructor <;> (first | ((try clear ex9); (try clear ha2); (try clear ha1); (try clear c13_); (try clear hmi); (try clear hs1); (try clear hqf); (try clear hrm); (try clear hqb); (try clear hsz); (try clear s₁); (try clear h_k); (try clear h_i); (try clear hE); (try clear hkc); omega) | omega)) (by (first | ((try clear ex9); (try clear c13_); (try clear hmi); (try clear hs1); (try clear hqf); (try clear hrm); (try clear hqb); (try clear hsz); (try clear s₁); (try clear h_w); (try clear h_k); (try clear h_i); (try clear hE); (try clear hkc); omega) | omega))) (cwS 3 hts (gS_G k558 k559 k8 k560) rfl rfl rfl (by decide +kernel) ⟨Nat.le_of_ble_eq_true rfl, Nat.le_of_ble_eq_true rfl⟩) ⟨fun a U g mk q => by obtain ⟨q0, q1, qP, qK, qM⟩ := q; exact ⟨q0, q1, qP, va_K.moved (u := U) (U := U.calling g mk a) (Vm.Alike.refl U.vm) qK, qM⟩, fun U hU hW => ⟨rfl, by rw [hU], by rw [hU]; exact hP, va_K.moved hW.alike hK, xM_warm hW hM⟩⟩ rfl rfl hl.1 rfl (lv_room (Nat.le_of_ble_eq_true rfl)) dX8_goInward_44 ⟨Nat.le_of_ble_eq_true rfl, Nat.le_of_ble_eq_true rfl⟩) hS (fun q _ h => fA_le hS.1 q h) (fA_le hS.1) (fun r9 u9 t9 H1 locs ht9 hvm9 hw9 hB9 hz9 hk9 hS => ?_)
    obtain ⟨μe, re⟩ := u9
    obtain ⟨hP, -⟩ := hB9
    rw [ht9] at hP
    generalize H1 = H at hP hS ⊢
    obtain ⟨e9, hw9⟩ := hw9
    have e9 : r9 = iZ re := e9
    subst e9
    simp only at hP hw9
    have hμe := hw9; clear hw9
    rw [hμe.1] at hP; have hμe := hμe.2
    have hre := ei_b hμe ⟨ha1.2.1, ha1.2.2, ha2.2.1, ha2.2.2⟩
    refine fz_st (k := 47) (n := 1101) (i := i) (z := re) hx hb hK hP fA_in hS 0 (by decide) sE_47 rfl ⟨by (first | ((try clear hre); (try clear hμe); (try clear μe); (try clear hz9); (try clear ex9); (try clear ha2); (try clear ha1); (try clear c13_); (try clear hmi); (try clear hs1); (try clear hqf); (try clear hrm); (try clear hqb); (try clear hsz); (try clear s₁); (try clear h_w); (try clear h_k); (try clear hE); (try clear hkc); omega) | omega), by (first | ((try clear hre); (try clear hμe); (try clear μe); (try clear hz9); (try clear ex9); (try clear ha2); (try clear ha1); (try clear c13_); (try clear hmi); (try clear hs1); (try clear hqb); (try clear hsz); (try clear s₁); (try clear h_k); (try clear hE); (try clear hkc); omega) | omega)⟩ (by decide) dX8_goInward_47 (fun H locs hP hS => ?_)
    obtain ⟨μ14, eμ14⟩ : ∃ x : va_M, x = uz μ 47 (i).toNat (re) := ⟨_, rfl⟩
    rw [← eμ14] at hP
    refine lv_goto (tgt := 201) hx hb dX8_goInward_48 (by decide) ?_
    exact W.vret hx hb hr (fun t9 ht9 hW9 => ⟨⟨μ14, rfl, (by
                try dsimp only
                rw [eμ14]
                exact ⟨fr_uz fr_rfl (Or.inr rfl), aB_uz hA (fun _ => by (first | ((try clear re); (try clear x); (try clear eμ14); (try clear μ14); (try clear hμe); (try clear μe); (try clear hz9); (try clear ex9); (try clear ha2); (try clear ha1); (try clear c13_); (try clear hmi); (try clear hs1); (try clear hqf); (try clear hrm); (try clear hqb); (try clear hsz); (try clear s₁); (try clear h_w); (try clear h_k); (try clear h_i); (try clear hE); (try clear hkc); omega) | omega))⟩), by rw [ht9]; exact hP, va_K.moved hW9.alike hK⟩, hS.F ht9⟩) hS.2.2 dX8_goInward_201
set_option maxHeartbeats 4000000 in
set_option maxRecDepth 100000 in
theorem s_WgoOn (l : Launch) (dC : Nat → ClassId) (dI : Nat → Nat → Nat) (cI cZ cII cIII : ClassId) (h0 sz : Nat) (μ : va_M) (q : Nat) (rm : Nat) (i : Int) (bs : Int) (hw : Int) (hq : rowB q rm) (hG : rG μ q rm) (hA : aB μ) (h_i : 0 ≤ i ∧ i < μ q 5) (h_b : 0 ≤ bs ∧ bs ≤ 66060) (h_w : 0 ≤ hw ∧ hw ≤ 2) : Met l yX8_goOn (Cond.code yX8_goOn cX8_goOn 7 none :: wsG) ({ frames := 2, cells := 0, slots := 0, locals := 43 } : Room) (va_Pc [.ref (h0 + 45), .ref (h0 + q), .int (iZ (i)), .int (iZ (bs)), .int (iZ (hw))] (fun U => U.heap.size = sz ∧ va_P (dC, dI) vwCl (fw (sE cI cZ cII cIII h0) h0 233 μ) U.heap ∧ va_K (dC, dI) vwCl (sT cI cZ cII cIII) U ∧ xM U)) (va_Qv (fun (u : va_M) => fr (fun x _ => x = 46 ∨ x = 47) μ u ∧ aB u) (fun u t => va_P (dC, dI) vwCl (fw (sE cI cZ cII cIII h0) h0 233 u) t.heap ∧ va_K (dC, dI) vwCl (sT cI cZ cII cIII) t) (fA h0 233 sz)) 0 0 (fA h0 233 sz) := by
  refine Met.ofW (cc := cX8_goOn) (maxL := 7) (ret := none) (by decide) rfl ?_
  intro p e s m args below meth c s₁ B hml hv
  obtain ⟨rfl, hsz, hP, hK, hM⟩ := hv
  have hx := B.exec
  have hb := B.bytes
  have hr := B.returns
  have hts : ∀ w ∈ wsG, w.before _ s = true := hG_of (atoms_spec (ws := (Cond.code yX8_goOn cX8_goOn 7 none :: wsG)) B.pre)
  have hown : s.vm.findClass RX8 = some m.cls := findClass_of_methodNamed B.named
  have hlocks := B.notSynchronized
  subst hsz
  have hS : va_S (fA h0 233 s.heap.size) s.heap s.heap [] := va_S.rf
  have hl := lv_entry ([.ref (h0 + 45), .ref (h0 + q), .int (iZ (i)), .int (iZ (bs)), .int (iZ (hw))]) (n := 7) (Nat.le_of_ble_eq_true rfl)
  rw [lg_entry_eq]
  generalize (lg_sl ([.ref (h0 + 45), .ref (h0 + q), .int (iZ (i)), .int (iZ (bs)), .int (iZ (hw))]) ++ List.replicate (7 - (lg_sl ([.ref (h0 + 45), .ref (h0 + q), .int (iZ (i)), .int (iZ (bs)), .int (iZ (hw))])).length) Slot.unset).toArray = ls at hl ⊢
  have hl : lv_has ls 7 [(0, .ref (h0 + 45)), (1, .ref (h0 + q)), (2, .int (iZ (i))), (3, .int (iZ (bs))), (4, .int (iZ (hw)))] := hl
  have hqb := rowB_b hq
  have hrm := rG_rm hq hG
  have hqf := rowB_f hq
  have hs1 := hG.1 i.toNat
  have hmi := rG_m hG i h_i.1 h_i.2
  have hs2 := hG.1 (μ (q + 2) i.toNat).toNat
  refine lv_aload_n hx hb dX8_goOn_0 rfl (lv_at hl 1 rfl) ?_
  refine fz_get (D := (dC, dI)) (ci := 4) (v := .ref (h0 + (q + 1))) (C := RX4) (T := TX4) (N := 8) hx hb hts inG4 hown hK hP (k := q) (by (first | ((try clear hs2); (try clear hmi); (try clear hs1); (try clear hqf); (try clear hrm); (try clear hsz); (try clear s₁); (try clear h_w); (try clear h_b); (try clear h_i); omega) | omega)) (F := (sRF h0 q)) (sE_rowO hq) rfl 0 (by decide) (hts _ k81) (fun _ h9 => h9) rfl dX8_goOn_1 ?_
  refine lv_iload_n hx hb dX8_goOn_4 rfl (lv_at hl 2 rfl) ?_
  refine fz_ld (k := (q + 1)) (n := rm) hx hb hK hP 0 (by (first | ((try clear hs2); (try clear hmi); (try clear hs1); (try clear hqf); (try clear hrm); (try clear hsz); (try clear s₁); (try clear h_w); (try clear h_b); (try clear h_i); omega) | omega)) (sE_rowA (r := 1) hq (by decide)) rfl ⟨by (first | ((try clear hs2); (try clear hmi); (try clear hs1); (try clear hqf); (try clear hrm); (try clear hqb); (try clear hsz); (try clear s₁); (try clear h_w); (try clear h_b); omega) | omega), by (first | ((try clear hs2); (try clear hmi); (try clear hs1); (try clear hqf); (try clear hqb); (try clear hsz); (try clear s₁); (try clear h_w); (try clear h_b); omega) | omega)⟩ (by (first | ((try clear hs2); (try clear hmi); (try clear hs1); (try clear hqb); (try clear hsz); (try clear s₁); (try clear h_w); (try clear h_b); (try clear h_i); omega) | omega)) dX8_goOn_5 ?_
  refine lv_istore (lv' := [(5, .int (iZ (μ (q + 1) (i).toNat))), (0, .ref (h0 + 45)), (1, .ref (h0 + q)), (2, .int (iZ (i))), (3, .int (iZ (bs))), (4, .int (iZ (hw)))]) hx hb dX8_goOn_6 hl (by decide) rfl (fun ls hl => ?_)
  refine lv_iload hx hb dX8_goOn_8 (lv_at hl 0 rfl) ?_
  refine va_calli (va_runSN (As := [.int (iZ (μ (q + 1) (i).toNat))]) (rest := []) ⟨hx, hb, hml, hown, hts⟩ (s_isLeaf l dC dI cI cZ cII cIII h0 s.heap.size μ (μ (q + 1) (i).toNat) (by first | assumption | (first | ((try clear hs2); (try clear hmi); (try clear hqf); (try clear hrm); (try clear hqb); (try clear hsz); (try clear s₁); (try clear h_w); (try clear h_b); (try clear h_i); omega) | omega) | exact ⟨by omega, by omega⟩)) ⟨va_cnB (host := "PageSkeleton") 1 hts (gI_G k420) rfl rfl rfl (xM_nest hM 13 rfl) (hts _ k1) (by decide +kernel) ⟨Nat.le_of_ble_eq_true rfl, Nat.le_of_ble_eq_true rfl⟩, hts _ k419, trivial⟩ ⟨fun a U g mk q => by obtain ⟨q0, q1, qP, qK, qM⟩ := q; exact ⟨q0, q1, qP, va_K.moved (u := U) (U := U.calling g mk a) (Vm.Alike.refl U.vm) qK, qM⟩, fun U hU hW => ⟨rfl, by rw [hU], by rw [hU]; exact hP, va_K.moved hW.alike hK, xM_warm hW hM⟩⟩ rfl rfl hl.1 rfl (lv_room (Nat.le_of_ble_eq_true rfl)) dX8_goOn_10 ⟨Nat.le_of_ble_eq_true rfl, Nat.le_of_ble_eq_true rfl⟩) hS (fun q _ h => fA_le hS.1 q h) (fA_le hS.1) (fun r9 u9 t9 H1 locs ht9 hvm9 hw9 hB9 hz9 hk9 hS => ?_)
  obtain ⟨μ1, r2⟩ := u9
  obtain ⟨hP, -⟩ := hB9
  rw [ht9] at hP
  generalize H1 = H at hP hS ⊢
  obtain ⟨e9, hw9⟩ := hw9
  have e9 : r9 = iZ r2 := e9
  subst e9
  simp only at hP hw9
  have hμ1 := hw9; clear hw9
  rw [hμ1.1] at hP; have hμ1 := hμ1.2
  have hlf := if_01 hμ1
  refine fz_if_eq (tgt := 17) (by constructor <;> (first | ((try clear hμ1); (try clear hz9); (try clear hs2); (try clear hmi); (try clear hs1); (try clear hqf); (try clear hrm); (try clear hqb); (try clear hsz); (try clear s₁); (try clear h_w); (try clear h_b); (try clear h_i); omega) | omega)) hx hb dX8_goOn_13 (by decide) (fun c13_ => ?_) (fun c13_ => ?_)
  · have ha1 := hA (bs + i + 1).toNat
    refine lv_aload_n hx hb dX8_goOn_17 rfl (lv_at hl 1 rfl) ?_
    refine fz_get (D := (dC, dI)) (ci := 8) (v := .ref (h0 + 46)) (C := RX8) (T := TX8) (N := 2) hx hb hts inG8 hown hK hP (k := 45) (by decide) (F := (sF45 h0)) sE_45 rfl 0 (by decide) (hts _ k211) (fun _ h9 => h9) rfl dX8_goOn_18 ?_
    refine lv_iload_n hx hb dX8_goOn_21 rfl (lv_at hl 4 rfl) ?_
    refine lv_iload_n hx hb dX8_goOn_22 rfl (lv_at hl 3 rfl) ?_
    refine lv_iadd hx hb dX8_goOn_23 ?_
    refine lv_topi (fun x9 ex9 => ?_)
    obtain rfl : x9 = iZ (bs + i) := ex9.trans (iZ_add _ _)
    refine lv_iconst (v := iZ 1) hx hb dX8_goOn_24 rfl ?_
    refine lv_iadd hx hb dX8_goOn_25 ?_
    refine lv_topi (fun x9 ex9 => ?_)
    obtain rfl : x9 = iZ ((bs + i) + 1) := ex9.trans (iZ_add _ _)
    refine fz_ld (k := 46) (n := 67161) hx hb hK hP 0 (by decide) sE_46 rfl ⟨by (first | ((try clear ex9); (try clear ha1); (try clear c13_); (try clear hlf); (try clear hμ1); (try clear μ1); (try clear hz9); (try clear hs2); (try clear hmi); (try clear hs1); (try clear hqf); (try clear hrm); (try clear hqb); (try clear hsz); (try clear s₁); (try clear h_w); omega) | omega), by (first | ((try clear ex9); (try clear ha1); (try clear hμ1); (try clear hz9); (try clear hs2); (try clear hmi); (try clear hqb); (try clear hsz); (try clear s₁); (try clear h_w); omega) | omega)⟩ (by decide) dX8_goOn_26 ?_
    refine lv_istore (lv' := [(6, .int (iZ (μ 46 ((bs + i) + 1).toNat))), (5, .int (iZ (μ (q + 1) (i).toNat))), (0, .ref (h0 + 45)), (1, .ref (h0 + q)), (2, .int (iZ (i))), (3, .int (iZ (bs))), (4, .int (iZ (hw)))]) hx hb dX8_goOn_27 hl (by decide) rfl (fun ls hl => ?_)
    refine lv_iload hx hb dX8_goOn_29 (lv_at hl 1 rfl) ?_
    refine lv_sipush (v := iZ 513) hx hb dX8_goOn_31 rfl ?_
    refine fz_icmp_ne (tgt := 64) (by constructor <;> (first | ((try clear ex9); (try clear ha1); (try clear c13_); (try clear hlf); (try clear hμ1); (try clear μ1); (try clear hz9); (try clear hs2); (try clear hmi); (try clear hqf); (try clear hrm); (try clear hqb); (try clear hsz); (try clear s₁); (try clear h_w); (try clear h_b); (try clear h_i); omega) | omega)) (by decide) hx hb dX8_goOn_34 (by decide) (fun c34_ => ?_) (fun c34_ => ?_)
    · refine lv_iload hx hb dX8_goOn_64 (lv_at hl 1 rfl) ?_
      refine lv_sipush (v := iZ 515) hx hb dX8_goOn_66 rfl ?_
      refine fz_icmp_ne (tgt := 111) (by constructor <;> (first | ((try clear c34_); (try clear ex9); (try clear ha1); (try clear c13_); (try clear hlf); (try clear hμ1); (try clear μ1); (try clear hz9); (try clear hs2); (try clear hmi); (try clear hqf); (try clear hrm); (try clear hqb); (try clear hsz); (try clear s₁); (try clear h_w); (try clear h_b); (try clear h_i); omega) | omega)) (by decide) hx hb dX8_goOn_69 (by decide) (fun c69_ => ?_) (fun c69_ => ?_)
      · refine lv_aload_n hx hb dX8_goOn_111 rfl (lv_at hl 2 rfl) ?_
        refine fz_get (D := (dC, dI)) (ci := 8) (v := .ref (h0 + 46)) (C := RX8) (T := TX8) (N := 2) hx hb hts inG8 hown hK hP (k := 45) (by decide) (F := (sF45 h0)) sE_45 rfl 0 (by decide) (hts _ k211) (fun _ h9 => h9) rfl dX8_goOn_112 ?_
        refine lv_iload_n hx hb dX8_goOn_115 rfl (lv_at hl 5 rfl) ?_
        refine lv_iload_n hx hb dX8_goOn_116 rfl (lv_at hl 4 rfl) ?_
        refine lv_iadd hx hb dX8_goOn_117 ?_
        refine lv_topi (fun x9 ex9 => ?_)
        obtain rfl : x9 = iZ (bs + i) := ex9.trans (iZ_add _ _)
        refine lv_iload hx hb dX8_goOn_118 (lv_at hl 0 rfl) ?_
        refine fz_st (k := 46) (n := 67161) (i := (bs + i)) (z := (μ 46 ((bs + i) + 1).toNat)) hx hb hK hP fA_in hS 0 (by decide) sE_46 rfl ⟨by (first | ((try clear ex9); (try clear c69_); (try clear c34_); (try clear ha1); (try clear c13_); (try clear hlf); (try clear hμ1); (try clear μ1); (try clear hz9); (try clear hs2); (try clear hmi); (try clear hs1); (try clear hqf); (try clear hrm); (try clear hqb); (try clear hsz); (try clear s₁); (try clear h_w); omega) | omega), by (first | ((try clear ex9); (try clear ha1); (try clear hμ1); (try clear hz9); (try clear hs2); (try clear hmi); (try clear hqb); (try clear hsz); (try clear s₁); (try clear h_w); omega) | omega)⟩ (by decide) dX8_goOn_120 (fun H locs hP hS => ?_)
        obtain ⟨μ3, eμ3⟩ : ∃ x : va_M, x = uz μ 46 (bs + i).toNat (μ 46 ((bs + i) + 1).toNat) := ⟨_, rfl⟩
        rw [← eμ3] at hP
        exact W.vret hx hb hr (fun t9 ht9 hW9 => ⟨⟨μ3, rfl, (by
                        try dsimp only
                        rw [eμ3]
                        exact ⟨fr_uz fr_rfl (Or.inl rfl), aB_uz hA (fun _ => by (first | ((try clear x); (try clear eμ3); (try clear μ3); (try clear ex9); (try clear c69_); (try clear c34_); (try clear c13_); (try clear hlf); (try clear hμ1); (try clear μ1); (try clear hz9); (try clear hs2); (try clear hmi); (try clear hs1); (try clear hqf); (try clear hrm); (try clear hqb); (try clear hsz); (try clear s₁); (try clear h_w); (try clear h_b); (try clear h_i); omega) | omega))⟩), by rw [ht9]; exact hP, va_K.moved hW9.alike hK⟩, hS.F ht9⟩) hS.2.2 dX8_goOn_121
      · refine lv_aload_n hx hb dX8_goOn_72 rfl (lv_at hl 3 rfl) ?_
        refine fz_get (D := (dC, dI)) (ci := 4) (v := .ref (h0 + (q + 1))) (C := RX4) (T := TX4) (N := 8) hx hb hts inG4 hown hK hP (k := q) (by (first | ((try clear c69_); (try clear c34_); (try clear ex9); (try clear ha1); (try clear c13_); (try clear hlf); (try clear hμ1); (try clear μ1); (try clear hz9); (try clear hs2); (try clear hmi); (try clear hs1); (try clear hqf); (try clear hrm); (try clear hsz); (try clear s₁); (try clear h_w); (try clear h_b); (try clear h_i); omega) | omega)) (F := (sRF h0 q)) (sE_rowO hq) rfl 0 (by decide) (hts _ k81) (fun _ h9 => h9) rfl dX8_goOn_73 ?_
        refine lv_aload_n hx hb dX8_goOn_76 rfl (lv_at hl 3 rfl) ?_
        refine fz_get (D := (dC, dI)) (ci := 4) (v := .ref (h0 + (q + 2))) (C := RX4) (T := TX4) (N := 8) hx hb hts inG4 hown hK hP (k := q) (by (first | ((try clear c69_); (try clear c34_); (try clear ex9); (try clear ha1); (try clear c13_); (try clear hlf); (try clear hμ1); (try clear μ1); (try clear hz9); (try clear hs2); (try clear hmi); (try clear hs1); (try clear hqf); (try clear hrm); (try clear hsz); (try clear s₁); (try clear h_w); (try clear h_b); (try clear h_i); omega) | omega)) (F := (sRF h0 q)) (sE_rowO hq) rfl 1 (by decide) (hts _ k86) (fun _ h9 => h9) rfl dX8_goOn_77 ?_
        refine lv_iload_n hx hb dX8_goOn_80 rfl (lv_at hl 4 rfl) ?_
        refine fz_ld (k := (q + 2)) (n := rm) hx hb hK hP 0 (by (first | ((try clear c69_); (try clear c34_); (try clear ex9); (try clear ha1); (try clear c13_); (try clear hlf); (try clear hμ1); (try clear μ1); (try clear hz9); (try clear hs2); (try clear hmi); (try clear hs1); (try clear hqf); (try clear hrm); (try clear hsz); (try clear s₁); (try clear h_w); (try clear h_b); (try clear h_i); omega) | omega)) (sE_rowA (r := 2) hq (by decide)) rfl ⟨by (first | ((try clear c69_); (try clear c34_); (try clear ex9); (try clear ha1); (try clear c13_); (try clear hlf); (try clear hμ1); (try clear μ1); (try clear hz9); (try clear hs2); (try clear hmi); (try clear hs1); (try clear hqf); (try clear hrm); (try clear hqb); (try clear hsz); (try clear s₁); (try clear h_w); (try clear h_b); omega) | omega), by (first | ((try clear c69_); (try clear c34_); (try clear ex9); (try clear ha1); (try clear c13_); (try clear hlf); (try clear hμ1); (try clear μ1); (try clear hz9); (try clear hs2); (try clear hmi); (try clear hs1); (try clear hqf); (try clear hqb); (try clear hsz); (try clear s₁); (try clear h_w); (try clear h_b); omega) | omega)⟩ (by (first | ((try clear ex9); (try clear ha1); (try clear hμ1); (try clear hz9); (try clear hs2); (try clear hmi); (try clear hs1); (try clear hqb); (try clear hsz); (try clear s₁); (try clear h_w); (try clear h_b); (try clear h_i); omega) | omega)) dX8_goOn_81 ?_
        refine fz_ld (k := (q + 1)) (n := rm) hx hb hK hP 0 (by (first | ((try clear c69_); (try clear c34_); (try clear ex9); (try clear ha1); (try clear c13_); (try clear hlf); (try clear hμ1); (try clear μ1); (try clear hz9); (try clear hs2); (try clear hmi); (try clear hs1); (try clear hqf); (try clear hrm); (try clear hsz); (try clear s₁); (try clear h_w); (try clear h_b); (try clear h_i); omega) | omega)) (sE_rowA (r := 1) hq (by decide)) rfl ⟨by (first | ((try clear c69_); (try clear c34_); (try clear ex9); (try clear ha1); (try clear c13_); (try clear hlf); (try clear hμ1); (try clear μ1); (try clear hz9); (try clear hs2); (try clear hs1); (try clear hqf); (try clear hrm); (try clear hqb); (try clear hsz); (try clear s₁); (try clear h_w); (try clear h_b); (try clear h_i); omega) | omega), by (first | ((try clear c69_); (try clear c34_); (try clear ex9); (try clear ha1); (try clear c13_); (try clear hlf); (try clear hμ1); (try clear μ1); (try clear hz9); (try clear hs2); (try clear hs1); (try clear hqf); (try clear hqb); (try clear hsz); (try clear s₁); (try clear h_w); (try clear h_b); (try clear h_i); omega) | omega)⟩ (by (first | ((try clear ex9); (try clear ha1); (try clear hμ1); (try clear hz9); (try clear hs2); (try clear hmi); (try clear hs1); (try clear hqb); (try clear hsz); (try clear s₁); (try clear h_w); (try clear h_b); (try clear h_i); omega) | omega)) dX8_goOn_82 ?_
        refine lv_sipush (v := iZ 514) hx hb dX8_goOn_83 rfl ?_
        refine fz_icmp_ne (tgt := 111) (by constructor <;> (first | ((try clear c69_); (try clear c34_); (try clear ex9); (try clear ha1); (try clear c13_); (try clear hlf); (try clear hμ1); (try clear μ1); (try clear hz9); (try clear hmi); (try clear hs1); (try clear hqf); (try clear hrm); (try clear hqb); (try clear hsz); (try clear s₁); (try clear h_w); (try clear h_b); (try clear h_i); omega) | omega)) (by decide) hx hb dX8_goOn_86 (by decide) (fun c86_ => ?_) (fun c86_ => ?_)
        · refine lv_aload_n hx hb dX8_goOn_111 rfl (lv_at hl 2 rfl) ?_
          refine fz_get (D := (dC, dI)) (ci := 8) (v := .ref (h0 + 46)) (C := RX8) (T := TX8) (N := 2) hx hb hts inG8 hown hK hP (k := 45) (by decide) (F := (sF45 h0)) sE_45 rfl 0 (by decide) (hts _ k211) (fun _ h9 => h9) rfl dX8_goOn_112 ?_
          refine lv_iload_n hx hb dX8_goOn_115 rfl (lv_at hl 5 rfl) ?_
          refine lv_iload_n hx hb dX8_goOn_116 rfl (lv_at hl 4 rfl) ?_
          refine lv_iadd hx hb dX8_goOn_117 ?_
          refine lv_topi (fun x9 ex9 => ?_)
          obtain rfl : x9 = iZ (bs + i) := ex9.trans (iZ_add _ _)
          refine lv_iload hx hb dX8_goOn_118 (lv_at hl 0 rfl) ?_
          refine fz_st (k := 46) (n := 67161) (i := (bs + i)) (z := (μ 46 ((bs + i) + 1).toNat)) hx hb hK hP fA_in hS 0 (by decide) sE_46 rfl ⟨by (first | ((try clear ex9); (try clear c86_); (try clear c69_); (try clear c34_); (try clear ha1); (try clear c13_); (try clear hlf); (try clear hμ1); (try clear μ1); (try clear hz9); (try clear hs2); (try clear hmi); (try clear hs1); (try clear hqf); (try clear hrm); (try clear hqb); (try clear hsz); (try clear s₁); (try clear h_w); omega) | omega), by (first | ((try clear ex9); (try clear ha1); (try clear hμ1); (try clear hz9); (try clear hs2); (try clear hmi); (try clear hs1); (try clear hqb); (try clear hsz); (try clear s₁); (try clear h_w); omega) | omega)⟩ (by decide) dX8_goOn_120 (fun H locs hP hS => ?_)
          obtain ⟨μ4, eμ4⟩ : ∃ x : va_M, x = uz μ 46 (bs + i).toNat (μ 46 ((bs + i) + 1).toNat) := ⟨_, rfl⟩
          rw [← eμ4] at hP
          exact W.vret hx hb hr (fun t9 ht9 hW9 => ⟨⟨μ4, rfl, (by
                            try dsimp only
                            rw [eμ4]
                            exact ⟨fr_uz fr_rfl (Or.inl rfl), aB_uz hA (fun _ => by (first | ((try clear x); (try clear eμ4); (try clear μ4); (try clear ex9); (try clear c86_); (try clear c69_); (try clear c34_); (try clear c13_); (try clear hlf); (try clear hμ1); (try clear μ1); (try clear hz9); (try clear hs2); (try clear hmi); (try clear hs1); (try clear hqf); (try clear hrm); (try clear hqb); (try clear hsz); (try clear s₁); (try clear h_w); (try clear h_b); (try clear h_i); omega) | omega))⟩), by rw [ht9]; exact hP, va_K.moved hW9.alike hK⟩, hS.F ht9⟩) hS.2.2 dX8_goOn_121
        · have ha2 := hA (μ (q + 2) i.toNat + 1).toNat
          refine lv_aload_n hx hb dX8_goOn_89 rfl (lv_at hl 2 rfl) ?_
          refine fz_get (D := (dC, dI)) (ci := 8) (v := .ref (h0 + 47)) (C := RX8) (T := TX8) (N := 2) hx hb hts inG8 hown hK hP (k := 45) (by decide) (F := (sF45 h0)) sE_45 rfl 1 (by decide) (hts _ k212) (fun _ h9 => h9) rfl dX8_goOn_90 ?_
          refine lv_aload_n hx hb dX8_goOn_93 rfl (lv_at hl 3 rfl) ?_
          refine fz_get (D := (dC, dI)) (ci := 4) (v := .ref (h0 + (q + 2))) (C := RX4) (T := TX4) (N := 8) hx hb hts inG4 hown hK hP (k := q) (by (first | ((try clear ha2); (try clear c86_); (try clear c69_); (try clear c34_); (try clear ex9); (try clear ha1); (try clear c13_); (try clear hlf); (try clear hμ1); (try clear μ1); (try clear hz9); (try clear hs2); (try clear hmi); (try clear hs1); (try clear hqf); (try clear hrm); (try clear hsz); (try clear s₁); (try clear h_w); (try clear h_b); (try clear h_i); omega) | omega)) (F := (sRF h0 q)) (sE_rowO hq) rfl 1 (by decide) (hts _ k86) (fun _ h9 => h9) rfl dX8_goOn_94 ?_
          refine lv_iload_n hx hb dX8_goOn_97 rfl (lv_at hl 4 rfl) ?_
          refine fz_ld (k := (q + 2)) (n := rm) hx hb hK hP 0 (by (first | ((try clear ha2); (try clear c86_); (try clear c69_); (try clear c34_); (try clear ex9); (try clear ha1); (try clear c13_); (try clear hlf); (try clear hμ1); (try clear μ1); (try clear hz9); (try clear hs2); (try clear hmi); (try clear hs1); (try clear hqf); (try clear hrm); (try clear hsz); (try clear s₁); (try clear h_w); (try clear h_b); (try clear h_i); omega) | omega)) (sE_rowA (r := 2) hq (by decide)) rfl ⟨by (first | ((try clear ha2); (try clear c86_); (try clear c69_); (try clear c34_); (try clear ex9); (try clear ha1); (try clear c13_); (try clear hlf); (try clear hμ1); (try clear μ1); (try clear hz9); (try clear hs2); (try clear hmi); (try clear hs1); (try clear hqf); (try clear hrm); (try clear hqb); (try clear hsz); (try clear s₁); (try clear h_w); (try clear h_b); omega) | omega), by (first | ((try clear ha2); (try clear c86_); (try clear c69_); (try clear c34_); (try clear ex9); (try clear ha1); (try clear c13_); (try clear hlf); (try clear hμ1); (try clear μ1); (try clear hz9); (try clear hs2); (try clear hmi); (try clear hs1); (try clear hqf); (try clear hqb); (try clear hsz); (try clear s₁); (try clear h_w); (try clear h_b); omega) | omega)⟩ (by (first | ((try clear ha2); (try clear c86_); (try clear ex9); (try clear ha1); (try clear hμ1); (try clear hz9); (try clear hs2); (try clear hmi); (try clear hs1); (try clear hqb); (try clear hsz); (try clear s₁); (try clear h_w); (try clear h_b); (try clear h_i); omega) | omega)) dX8_goOn_98 ?_
          refine lv_iconst (v := iZ 1) hx hb dX8_goOn_99 rfl ?_
          refine lv_iadd hx hb dX8_goOn_100 ?_
          refine lv_topi (fun x9 ex9 => ?_)
          obtain rfl : x9 = iZ ((μ (q + 2) (i).toNat) + 1) := ex9.trans (iZ_add _ _)
          refine fz_ld (k := 47) (n := 1101) hx hb hK hP 0 (by decide) sE_47 rfl ⟨by (first | ((try clear ex9); (try clear ha2); (try clear c86_); (try clear c69_); (try clear c34_); (try clear ha1); (try clear c13_); (try clear hlf); (try clear hμ1); (try clear μ1); (try clear hz9); (try clear hs2); (try clear hs1); (try clear hqf); (try clear hrm); (try clear hqb); (try clear hsz); (try clear s₁); (try clear h_w); (try clear h_b); (try clear h_i); omega) | omega), by (first | ((try clear ex9); (try clear ha2); (try clear c86_); (try clear ha1); (try clear hμ1); (try clear hz9); (try clear hs2); (try clear hs1); (try clear hqb); (try clear hsz); (try clear s₁); (try clear h_w); (try clear h_b); (try clear h_i); omega) | omega)⟩ (by decide) dX8_goOn_101 ?_
          refine lv_iload hx hb dX8_goOn_102 (lv_at hl 0 rfl) ?_
          refine lv_iload hx hb dX8_goOn_104 (lv_at hl 6 rfl) ?_
          refine va_calli (va_runS (As := [.int (iZ (μ 47 ((μ (q + 2) (i).toNat) + 1).toNat)), .int (iZ (μ 46 ((bs + i) + 1).toNat)), .int (iZ (hw))]) (rest := []) ⟨hx, hb, hml, hown, hts⟩ (s_Weither l dC dI cI cZ cII cIII h0 H.size μ (μ 47 ((μ (q + 2) (i).toNat) + 1).toNat) (μ 46 ((bs + i) + 1).toNat) (hw) (by constructor <;> (first | ((try clear ex9); (try clear c86_); (try clear c69_); (try clear c34_); (try clear ha1); (try clear c13_); (try clear hlf); (try clear hμ1); (try clear μ1); (try clear hz9); (try clear hs2); (try clear hmi); (try clear hs1); (try clear hqf); (try clear hrm); (try clear hqb); (try clear hsz); (try clear s₁); (try clear h_w); (try clear h_b); (try clear h_i); omega) | omega)) (by constructor <;> (first | ((try clear ex9); (try clear ha2); (try clear c86_); (try clear c69_); (try clear c34_); (try clear c13_); (try clear hlf); (try clear hμ1); (try clear μ1); (try clear hz9); (try clear hs2); (try clear hmi); (try clear hs1); (try clear hqf); (try clear hrm); (try clear hqb); (try clear hsz); (try clear s₁); (try clear h_w); (try clear h_b); (try clear h_i); omega) | omega)) (by constructor <;> (first | ((try clear ex9); (try clear ha2); (try clear c86_); (try clear c69_); (try clear c34_); (try clear ha1); (try clear c13_); (try clear hlf); (try clear hμ1); (try clear μ1); (try clear hz9); (try clear hs2); (try clear hmi); (try clear hs1); (try clear hqf); (try clear hrm); (try clear hqb); (try clear hsz); (try clear s₁); (try clear h_b); (try clear h_i); omega) | omega)) (by (first | ((try clear ex9); (try clear c86_); (try clear c69_); (try clear c34_); (try clear c13_); (try clear hlf); (try clear hμ1); (try clear μ1); (try clear hz9); (try clear hs2); (try clear hmi); (try clear hs1); (try clear hqf); (try clear hrm); (try clear hqb); (try clear hsz); (try clear s₁); (try clear h_w); (try clear h_b); (try clear h_i); omega) | omega))) (cwS 3 hts (gS_G k558 k559 k8 k560) rfl rfl rfl (by decide +kernel) ⟨Nat.le_of_ble_eq_true rfl, Nat.le_of_ble_eq_true rfl⟩) ⟨fun a U g mk q => by obtain ⟨q0, q1, qP, qK, qM⟩ := q; exact ⟨q0, q1, qP, va_K.moved (u := U) (U := U.calling g mk a) (Vm.Alike.refl U.vm) qK, qM⟩, fun U hU hW => ⟨rfl, by rw [hU], by rw [hU]; exact hP, va_K.moved hW.alike hK, xM_warm hW hM⟩⟩ rfl rfl hl.1 rfl (lv_room (Nat.le_of_ble_eq_true rfl)) dX8_goOn_106 ⟨Nat.le_of_ble_eq_true rfl, Nat.le_of_ble_eq_true rfl⟩) hS (fun q _ h => fA_le hS.1 q h) (fA_le hS.1) (fun r9 u9 t9 H1 locs ht9 hvm9 hw9 hB9 hz9 hk9 hS => ?_)
          obtain ⟨μf, rf⟩ := u9
          obtain ⟨hP, -⟩ := hB9
          rw [ht9] at hP
          generalize H1 = H at hP hS ⊢
          obtain ⟨e9, hw9⟩ := hw9
          have e9 : r9 = iZ rf := e9
          subst e9
          simp only at hP hw9
          have hμf := hw9; clear hw9
          rw [hμf.1] at hP; have hμf := hμf.2
          have hrf := ei_b hμf ⟨ha2.2.1, ha2.2.2, ha1.1.1, ha1.1.2⟩
          refine lv_istore (lv' := [(6, .int (iZ (rf))), (5, .int (iZ (μ (q + 1) (i).toNat))), (0, .ref (h0 + 45)), (1, .ref (h0 + q)), (2, .int (iZ (i))), (3, .int (iZ (bs))), (4, .int (iZ (hw)))]) hx hb dX8_goOn_109 hl (by decide) rfl (fun ls hl => ?_)
          refine lv_aload_n hx hb dX8_goOn_111 rfl (lv_at hl 2 rfl) ?_
          refine fz_get (D := (dC, dI)) (ci := 8) (v := .ref (h0 + 46)) (C := RX8) (T := TX8) (N := 2) hx hb hts inG8 hown hK hP (k := 45) (by decide) (F := (sF45 h0)) sE_45 rfl 0 (by decide) (hts _ k211) (fun _ h9 => h9) rfl dX8_goOn_112 ?_
          refine lv_iload_n hx hb dX8_goOn_115 rfl (lv_at hl 5 rfl) ?_
          refine lv_iload_n hx hb dX8_goOn_116 rfl (lv_at hl 4 rfl) ?_
          refine lv_iadd hx hb dX8_goOn_117 ?_
          refine lv_topi (fun x9 ex9 => ?_)
          obtain rfl : x9 = iZ (bs + i) := ex9.trans (iZ_add _ _)
          refine lv_iload hx hb dX8_goOn_118 (lv_at hl 0 rfl) ?_
          refine fz_st (k := 46) (n := 67161) (i := (bs + i)) (z := rf) hx hb hK hP fA_in hS 0 (by decide) sE_46 rfl ⟨by (first | ((try clear ex9); (try clear hrf); (try clear hμf); (try clear μf); (try clear hz9); (try clear ha2); (try clear c86_); (try clear c69_); (try clear c34_); (try clear ha1); (try clear c13_); (try clear hlf); (try clear hμ1); (try clear μ1); (try clear hs2); (try clear hmi); (try clear hs1); (try clear hqf); (try clear hrm); (try clear hqb); (try clear hsz); (try clear s₁); (try clear h_w); omega) | omega), by (first | ((try clear ex9); (try clear hrf); (try clear hμf); (try clear μf); (try clear hz9); (try clear ha2); (try clear c86_); (try clear ha1); (try clear hμ1); (try clear hs2); (try clear hmi); (try clear hs1); (try clear hqb); (try clear hsz); (try clear s₁); omega) | omega)⟩ (by decide) dX8_goOn_120 (fun H locs hP hS => ?_)
          obtain ⟨μ5, eμ5⟩ : ∃ x : va_M, x = uz μ 46 (bs + i).toNat (rf) := ⟨_, rfl⟩
          rw [← eμ5] at hP
          exact W.vret hx hb hr (fun t9 ht9 hW9 => ⟨⟨μ5, rfl, (by
                            try dsimp only
                            rw [eμ5]
                            exact ⟨fr_uz fr_rfl (Or.inl rfl), aB_uz hA (fun _ => by (first | ((try clear rf); (try clear x); (try clear eμ5); (try clear μ5); (try clear ex9); (try clear hμf); (try clear μf); (try clear hz9); (try clear ha2); (try clear c86_); (try clear c69_); (try clear c34_); (try clear ha1); (try clear c13_); (try clear hlf); (try clear hμ1); (try clear r2); (try clear μ1); (try clear hs2); (try clear hmi); (try clear hs1); (try clear hqf); (try clear hrm); (try clear hqb); (try clear hsz); (try clear s₁); (try clear h_w); (try clear h_b); (try clear h_i); omega) | omega))⟩), by rw [ht9]; exact hP, va_K.moved hW9.alike hK⟩, hS.F ht9⟩) hS.2.2 dX8_goOn_121
    · have ha2 := hA (bs + μ (q + 2) i.toNat + 1).toNat
      refine lv_iload hx hb dX8_goOn_37 (lv_at hl 0 rfl) ?_
      refine lv_aload_n hx hb dX8_goOn_39 rfl (lv_at hl 2 rfl) ?_
      refine fz_get (D := (dC, dI)) (ci := 8) (v := .ref (h0 + 46)) (C := RX8) (T := TX8) (N := 2) hx hb hts inG8 hown hK hP (k := 45) (by decide) (F := (sF45 h0)) sE_45 rfl 0 (by decide) (hts _ k211) (fun _ h9 => h9) rfl dX8_goOn_40 ?_
      refine lv_iload_n hx hb dX8_goOn_43 rfl (lv_at hl 5 rfl) ?_
      refine lv_aload_n hx hb dX8_goOn_44 rfl (lv_at hl 3 rfl) ?_
      refine fz_get (D := (dC, dI)) (ci := 4) (v := .ref (h0 + (q + 2))) (C := RX4) (T := TX4) (N := 8) hx hb hts inG4 hown hK hP (k := q) (by (first | ((try clear ha2); (try clear c34_); (try clear ex9); (try clear ha1); (try clear c13_); (try clear hlf); (try clear hμ1); (try clear μ1); (try clear hz9); (try clear hs2); (try clear hmi); (try clear hs1); (try clear hqf); (try clear hrm); (try clear hsz); (try clear s₁); (try clear h_w); (try clear h_b); (try clear h_i); omega) | omega)) (F := (sRF h0 q)) (sE_rowO hq) rfl 1 (by decide) (hts _ k86) (fun _ h9 => h9) rfl dX8_goOn_45 ?_
      refine lv_iload_n hx hb dX8_goOn_48 rfl (lv_at hl 4 rfl) ?_
      refine fz_ld (k := (q + 2)) (n := rm) hx hb hK hP 0 (by (first | ((try clear ha2); (try clear c34_); (try clear ex9); (try clear ha1); (try clear c13_); (try clear hlf); (try clear hμ1); (try clear μ1); (try clear hz9); (try clear hs2); (try clear hmi); (try clear hs1); (try clear hqf); (try clear hrm); (try clear hsz); (try clear s₁); (try clear h_w); (try clear h_b); (try clear h_i); omega) | omega)) (sE_rowA (r := 2) hq (by decide)) rfl ⟨by (first | ((try clear ha2); (try clear c34_); (try clear ex9); (try clear ha1); (try clear c13_); (try clear hlf); (try clear hμ1); (try clear μ1); (try clear hz9); (try clear hs2); (try clear hmi); (try clear hs1); (try clear hqf); (try clear hrm); (try clear hqb); (try clear hsz); (try clear s₁); (try clear h_w); (try clear h_b); omega) | omega), by (first | ((try clear ha2); (try clear c34_); (try clear ex9); (try clear ha1); (try clear c13_); (try clear hlf); (try clear hμ1); (try clear μ1); (try clear hz9); (try clear hs2); (try clear hmi); (try clear hs1); (try clear hqf); (try clear hqb); (try clear hsz); (try clear s₁); (try clear h_w); (try clear h_b); omega) | omega)⟩ (by (first | ((try clear ha2); (try clear ex9); (try clear ha1); (try clear hμ1); (try clear hz9); (try clear hs2); (try clear hmi); (try clear hs1); (try clear hqb); (try clear hsz); (try clear s₁); (try clear h_w); (try clear h_b); (try clear h_i); omega) | omega)) dX8_goOn_49 ?_
      refine lv_iadd hx hb dX8_goOn_50 ?_
      refine lv_topi (fun x9 ex9 => ?_)
      obtain rfl : x9 = iZ (bs + (μ (q + 2) (i).toNat)) := ex9.trans (iZ_add _ _)
      refine lv_iconst (v := iZ 1) hx hb dX8_goOn_51 rfl ?_
      refine lv_iadd hx hb dX8_goOn_52 ?_
      refine lv_topi (fun x9 ex9 => ?_)
      obtain rfl : x9 = iZ ((bs + (μ (q + 2) (i).toNat)) + 1) := ex9.trans (iZ_add _ _)
      refine fz_ld (k := 46) (n := 67161) hx hb hK hP 0 (by decide) sE_46 rfl ⟨by (first | ((try clear ex9); (try clear ha2); (try clear c34_); (try clear ha1); (try clear c13_); (try clear hlf); (try clear hμ1); (try clear μ1); (try clear hz9); (try clear hs2); (try clear hs1); (try clear hqf); (try clear hrm); (try clear hqb); (try clear hsz); (try clear s₁); (try clear h_w); (try clear h_i); omega) | omega), by (first | ((try clear ex9); (try clear ha2); (try clear ha1); (try clear hμ1); (try clear hz9); (try clear hs2); (try clear hs1); (try clear hqb); (try clear hsz); (try clear s₁); (try clear h_w); (try clear h_i); omega) | omega)⟩ (by decide) dX8_goOn_53 ?_
      refine lv_iload hx hb dX8_goOn_54 (lv_at hl 6 rfl) ?_
      refine va_calli (va_runS (As := [.int (iZ (μ 46 ((bs + i) + 1).toNat)), .int (iZ (μ 46 ((bs + (μ (q + 2) (i).toNat)) + 1).toNat)), .int (iZ (hw))]) (rest := []) ⟨hx, hb, hml, hown, hts⟩ (s_Weither l dC dI cI cZ cII cIII h0 H.size μ (μ 46 ((bs + i) + 1).toNat) (μ 46 ((bs + (μ (q + 2) (i).toNat)) + 1).toNat) (hw) (by constructor <;> (first | ((try clear ex9); (try clear ha2); (try clear c34_); (try clear c13_); (try clear hlf); (try clear hμ1); (try clear μ1); (try clear hz9); (try clear hs2); (try clear hmi); (try clear hs1); (try clear hqf); (try clear hrm); (try clear hqb); (try clear hsz); (try clear s₁); (try clear h_w); (try clear h_b); (try clear h_i); omega) | omega)) (by constructor <;> (first | ((try clear ex9); (try clear c34_); (try clear ha1); (try clear c13_); (try clear hlf); (try clear hμ1); (try clear μ1); (try clear hz9); (try clear hs2); (try clear hmi); (try clear hs1); (try clear hqf); (try clear hrm); (try clear hqb); (try clear hsz); (try clear s₁); (try clear h_w); (try clear h_b); (try clear h_i); omega) | omega)) (by constructor <;> (first | ((try clear ex9); (try clear ha2); (try clear c34_); (try clear ha1); (try clear c13_); (try clear hlf); (try clear hμ1); (try clear μ1); (try clear hz9); (try clear hs2); (try clear hmi); (try clear hs1); (try clear hqf); (try clear hrm); (try clear hqb); (try clear hsz); (try clear s₁); (try clear h_b); (try clear h_i); omega) | omega)) (by (first | ((try clear ex9); (try clear c34_); (try clear c13_); (try clear hlf); (try clear hμ1); (try clear μ1); (try clear hz9); (try clear hs2); (try clear hmi); (try clear hs1); (try clear hqf); (try clear hrm); (try clear hqb); (try clear hsz); (try clear s₁); (try clear h_w); (try clear h_b); (try clear h_i); omega) | omega))) (cwS 3 hts (gS_G k558 k559 k8 k560) rfl rfl rfl (by decide +kernel) ⟨Nat.le_of_ble_eq_true rfl, Nat.le_of_ble_eq_true rfl⟩) ⟨fun a U g mk q => by obtain ⟨q0, q1, qP, qK, qM⟩ := q; exact ⟨q0, q1, qP, va_K.moved (u := U) (U := U.calling g mk a) (Vm.Alike.refl U.vm) qK, qM⟩, fun U hU hW => ⟨rfl, by rw [hU], by rw [hU]; exact hP, va_K.moved hW.alike hK, xM_warm hW hM⟩⟩ rfl rfl hl.1 rfl (lv_room (Nat.le_of_ble_eq_true rfl)) dX8_goOn_56 ⟨Nat.le_of_ble_eq_true rfl, Nat.le_of_ble_eq_true rfl⟩) hS (fun q _ h => fA_le hS.1 q h) (fA_le hS.1) (fun r9 u9 t9 H1 locs ht9 hvm9 hw9 hB9 hz9 hk9 hS => ?_)
      obtain ⟨μe, re⟩ := u9
      obtain ⟨hP, -⟩ := hB9
      rw [ht9] at hP
      generalize H1 = H at hP hS ⊢
      obtain ⟨e9, hw9⟩ := hw9
      have e9 : r9 = iZ re := e9
      subst e9
      simp only at hP hw9
      have hμe := hw9; clear hw9
      rw [hμe.1] at hP; have hμe := hμe.2
      have hre := ei_b hμe ⟨ha1.1.1, ha1.1.2, ha2.1.1, ha2.1.2⟩
      refine lv_istore (lv' := [(6, .int (iZ (re))), (5, .int (iZ (μ (q + 1) (i).toNat))), (0, .ref (h0 + 45)), (1, .ref (h0 + q)), (2, .int (iZ (i))), (3, .int (iZ (bs))), (4, .int (iZ (hw)))]) hx hb dX8_goOn_59 hl (by decide) rfl (fun ls hl => ?_)
      refine lv_goto (tgt := 111) hx hb dX8_goOn_61 (by decide) ?_
      refine lv_aload_n hx hb dX8_goOn_111 rfl (lv_at hl 2 rfl) ?_
      refine fz_get (D := (dC, dI)) (ci := 8) (v := .ref (h0 + 46)) (C := RX8) (T := TX8) (N := 2) hx hb hts inG8 hown hK hP (k := 45) (by decide) (F := (sF45 h0)) sE_45 rfl 0 (by decide) (hts _ k211) (fun _ h9 => h9) rfl dX8_goOn_112 ?_
      refine lv_iload_n hx hb dX8_goOn_115 rfl (lv_at hl 5 rfl) ?_
      refine lv_iload_n hx hb dX8_goOn_116 rfl (lv_at hl 4 rfl) ?_
      refine lv_iadd hx hb dX8_goOn_117 ?_
      refine lv_topi (fun x9 ex9 => ?_)
      obtain rfl : x9 = iZ (bs + i) := ex9.trans (iZ_add _ _)
      refine lv_iload hx hb dX8_goOn_118 (lv_at hl 0 rfl) ?_
      refine fz_st (k := 46) (n := 67161) (i := (bs + i)) (z := re) hx hb hK hP fA_in hS 0 (by decide) sE_46 rfl ⟨by (first | ((try clear ex9); (try clear hre); (try clear hμe); (try clear μe); (try clear hz9); (try clear ha2); (try clear c34_); (try clear ha1); (try clear c13_); (try clear hlf); (try clear hμ1); (try clear μ1); (try clear hs2); (try clear hmi); (try clear hs1); (try clear hqf); (try clear hrm); (try clear hqb); (try clear hsz); (try clear s₁); (try clear h_w); omega) | omega), by (first | ((try clear ex9); (try clear hre); (try clear hμe); (try clear μe); (try clear hz9); (try clear ha2); (try clear ha1); (try clear hμ1); (try clear hs2); (try clear hmi); (try clear hs1); (try clear hqb); (try clear hsz); (try clear s₁); omega) | omega)⟩ (by decide) dX8_goOn_120 (fun H locs hP hS => ?_)
      obtain ⟨μ6, eμ6⟩ : ∃ x : va_M, x = uz μ 46 (bs + i).toNat (re) := ⟨_, rfl⟩
      rw [← eμ6] at hP
      exact W.vret hx hb hr (fun t9 ht9 hW9 => ⟨⟨μ6, rfl, (by
                    try dsimp only
                    rw [eμ6]
                    exact ⟨fr_uz fr_rfl (Or.inl rfl), aB_uz hA (fun _ => by (first | ((try clear re); (try clear x); (try clear eμ6); (try clear μ6); (try clear ex9); (try clear hμe); (try clear μe); (try clear hz9); (try clear ha2); (try clear c34_); (try clear ha1); (try clear c13_); (try clear hlf); (try clear hμ1); (try clear r2); (try clear μ1); (try clear hs2); (try clear hmi); (try clear hs1); (try clear hqf); (try clear hrm); (try clear hqb); (try clear hsz); (try clear s₁); (try clear h_w); (try clear h_b); (try clear h_i); omega) | omega))⟩), by rw [ht9]; exact hP, va_K.moved hW9.alike hK⟩, hS.F ht9⟩) hS.2.2 dX8_goOn_121
  · exact W.vret hx hb hr (fun t9 ht9 hW9 => ⟨⟨μ, rfl, (by
                try dsimp only
                exact ⟨fr_rfl, hA⟩), by rw [ht9]; exact hP, va_K.moved hW9.alike hK⟩, hS.F ht9⟩) hS.2.2 dX8_goOn_16
set_option maxHeartbeats 4000000 in
set_option maxRecDepth 100000 in
theorem LX8_goThrough_67 {p : Program} {l : Launch} {e : Env} {R : Room} {s : State} {m : MethodId} {args : Array Value} {below : List Frame} {meth : Method} {c : Code} {cells slots : Nat} {Q : State → Prop} {dC : Nat → ClassId} {dI : Nat → Nat → Nat} {h0 : Nat} {cI cZ cII cIII : ClassId} (hx : p.tables.exec = Jvm.exec) (hb : c.code = cX8_goThrough) (hml : c.maxLocals = 9) (hown : s.vm.findClass RX8 = some m.cls) (hts : ∀ w ∈ wsG, w.before args s = true) (hK : va_K (dC, dI) vwCl (sT cI cZ cII cIII) s) (hM : xM s) (hRf : 4 ≤ R.frames) (hRl : 85 ≤ R.locals) (hRc : cells ≤ R.cells) (hRs : slots ≤ R.slots) (μ0 : va_M) (q : Nat) (rm : Nat) (kc : Nat) (nc : Nat) (n : Int) (hw : Int) (k : Int) (hq : rowB q rm) (hG : rG μ0 q rm) (hkc : 110 ≤ kc ∧ kc < 233 ∧ 60 ≤ nc ∧ nc ≤ 1101) (hE : ∀ f, sE cI cZ cII cIII h0 kc f = .inl (cI, nc, .inl f)) (hcr : ∀ j, inR (μ0 kc j)) (h_n : 0 ≤ n ∧ n ≤ 60) (h_w : 0 ≤ hw ∧ hw ≤ 2) (hexit91 : ∀ (i : Int) (μ : va_M) (H : Heap) (locs : List Loc) (ls : Array Slot), (0 ≤ k ∧ k ≤ n) → (fr (fun x _ => x = 46 ∨ x = 47) μ0 μ) → (aB μ) → va_P (dC, dI) vwCl (fw (sE cI cZ cII cIII h0) h0 233 μ) H → va_S (fA h0 233 s.heap.size) s.heap H locs → lv_has ls 9 [(7, .int (iZ (k * (μ0 q 5 + 1)))), (6, .int (iZ (k))), (5, .int (iZ (μ0 q 5 + 1))), (4, .int (iZ (hw))), (3, .int (iZ (n))), (2, .ref (h0 + kc)), (1, .ref (h0 + q)), (0, .ref (h0 + 45))] → W p l e R s m args below meth c H locs cells slots Q (F0 m 91 ls [])) :
    ∀ (n9 : Nat) (i : Int) (μ : va_M) (H : Heap) (locs : List Loc) (ls : Array Slot), (0 ≤ k ∧ k ≤ n) → (-1 ≤ i ∧ i < μ0 q 5) → (fr (fun x _ => x = 46 ∨ x = 47) μ0 μ) → (aB μ) → (i + 1).toNat < n9 → va_P (dC, dI) vwCl (fw (sE cI cZ cII cIII h0) h0 233 μ) H → va_S (fA h0 233 s.heap.size) s.heap H locs → lv_has ls 9 [(8, .int (iZ (i))), (7, .int (iZ (k * (μ0 q 5 + 1)))), (6, .int (iZ (k))), (5, .int (iZ (μ0 q 5 + 1))), (4, .int (iZ (hw))), (3, .int (iZ (n))), (2, .ref (h0 + kc)), (1, .ref (h0 + q)), (0, .ref (h0 + 45))] → W p l e R s m args below meth c H locs cells slots Q (F0 m 67 ls []) := by
  intro n9
  induction n9 with
  | zero => intro i μ H locs ls hk hi hf hA hm9 hP hS hl; exact absurd hm9 (Nat.not_lt_zero _)
  | succ n9 ih =>
    intro i μ H locs ls hk hi hf hA hm9 hP hS hl
    have hrm := rG_rm hq hG
    have hqb := rowB_b hq
    have hqf := rowB_f hq
    have x5 : μ q 5 = μ0 q 5 := hf _ _ (by (first | ((try clear x5); (try clear hqb); (try clear hrm); (try clear hm9); (try clear hA); (try clear hf); (try clear hi); (try clear hk); (try clear hexit91); (try clear h_w); (try clear h_n); (try clear hE); (try clear hkc); (try clear hRs); (try clear hRc); (try clear hRl); (try clear hRf); omega) | omega))
    have hG1 : rG μ q rm := rG_fr hG (fun x y h8 h9 => hf _ _ (by (first | ((try clear y); (try clear x5); (try clear hrm); (try clear hm9); (try clear hA); (try clear hf); (try clear hi); (try clear hk); (try clear hexit91); (try clear h_w); (try clear h_n); (try clear hE); (try clear hkc); (try clear hRs); (try clear hRc); (try clear hRl); (try clear hRf); omega) | omega)))
    have hc1 : ∀ j, inR (μ kc j) := fun j => by rw [hf _ _ (by (first | ((try clear j); (try clear x5); (try clear hqf); (try clear hqb); (try clear hrm); (try clear hm9); (try clear hA); (try clear hf); (try clear hi); (try clear hk); (try clear hexit91); (try clear h_w); (try clear h_n); (try clear hE); (try clear hRs); (try clear hRc); (try clear hRl); (try clear hRf); omega) | omega))]; exact hcr j
    refine lv_iload hx hb dX8_goThrough_67 (lv_at hl 0 rfl) ?_
    refine fz_if_lt (tgt := 91) (by constructor <;> (first | ((try clear hm9); (try clear hA); (try clear hf); (try clear hk); (try clear hexit91); (try clear h_w); (try clear h_n); (try clear hE); (try clear hkc); (try clear hRs); (try clear hRc); (try clear hRl); (try clear hRf); omega) | omega)) hx hb dX8_goThrough_69 (by decide) (fun c69_ => ?_) (fun c69_ => ?_)
    · exact hexit91 (i) μ H locs ls (by exact hk) (by exact hf) (by exact hA) hP hS (lv_sub hl [1, 2, 3, 4, 5, 6, 7, 8] rfl)
    · refine lv_aload_n hx hb dX8_goThrough_72 rfl (lv_at hl 8 rfl) ?_
      refine lv_aload_n hx hb dX8_goThrough_73 rfl (lv_at hl 7 rfl) ?_
      refine lv_iload hx hb dX8_goThrough_74 (lv_at hl 0 rfl) ?_
      refine lv_aload_n hx hb dX8_goThrough_76 rfl (lv_at hl 6 rfl) ?_
      refine lv_iload hx hb dX8_goThrough_77 (lv_at hl 2 rfl) ?_
      refine lv_iload_n hx hb dX8_goThrough_79 rfl (lv_at hl 5 rfl) ?_
      refine lv_iload hx hb dX8_goThrough_80 (lv_at hl 4 rfl) ?_
      refine va_callv (va_runV (As := [.ref (h0 + q), .int (iZ (i)), .ref (h0 + kc), .int (iZ (k)), .int (iZ (n)), .int (iZ (hw))]) (rest := []) ⟨hx, hb, hml, hown, hts⟩ (s_WgoInward l dC dI cI cZ cII cIII h0 H.size μ (q) (rm) (kc) (nc) (i) (k) (n) (hw) (hq) (by exact hG1) (by exact hA) (by first | assumption | omega | exact ⟨by omega, by omega⟩) (hE) (by exact hc1) (by first | assumption | (first | ((try clear hqf); (try clear hqb); (try clear hrm); (try clear hm9); (try clear hA); (try clear hf); (try clear hk); (try clear hexit91); (try clear h_w); (try clear h_n); (try clear hE); (try clear hkc); (try clear hRs); (try clear hRc); (try clear hRl); (try clear hRf); omega) | omega) | exact ⟨by omega, by omega⟩) (by first | assumption | (first | ((try clear c69_); (try clear x5); (try clear hqf); (try clear hqb); (try clear hrm); (try clear hm9); (try clear hA); (try clear hf); (try clear hi); (try clear hexit91); (try clear h_w); (try clear hE); (try clear hkc); (try clear hRs); (try clear hRc); (try clear hRl); (try clear hRf); omega) | omega) | exact ⟨by omega, by omega⟩) (by first | assumption | omega | exact ⟨by omega, by omega⟩)) (cwV 6 hts (gV_G k554 k556 ks_yX8_goInward k8 k557) rfl rfl rfl (by decide +kernel) ⟨by show 3 + 1 ≤ _; (first | ((try clear c69_); (try clear x5); (try clear hqf); (try clear hqb); (try clear hrm); (try clear hm9); (try clear hA); (try clear hf); (try clear hi); (try clear hk); (try clear hexit91); (try clear h_w); (try clear h_n); (try clear hE); (try clear hkc); (try clear hRs); (try clear hRc); (try clear hRl); omega) | omega), by show 8 + (11 + 11) + (55) ≤ _; (first | ((try clear c69_); (try clear x5); (try clear hqf); (try clear hqb); (try clear hrm); (try clear hm9); (try clear hA); (try clear hf); (try clear hi); (try clear hk); (try clear hexit91); (try clear h_w); (try clear h_n); (try clear hE); (try clear hkc); (try clear hRs); (try clear hRc); (try clear hRf); omega) | omega)⟩) ⟨fun a U g mk q => by obtain ⟨q0, q1, qP, qK, qM⟩ := q; exact ⟨q0, q1, qP, va_K.moved (u := U) (U := U.calling g mk a) (Vm.Alike.refl U.vm) qK, qM⟩, va_recv hK hP (ci := 8) (q0 := 45) rfl ((fw_get (by decide)).trans (by rw [sE_45])), fun U hU hW => ⟨rfl, by rw [hU], by rw [hU]; exact hP, va_K.moved hW.alike hK, xM_warm hW hM⟩⟩ rfl rfl hl.1 rfl (lv_room (Nat.le_of_ble_eq_true rfl)) dX8_goThrough_82 ⟨hRc, hRs⟩) hS (fun q _ h => fA_le hS.1 q h) (fA_le hS.1) (fun u9 t9 H1 locs ht9 hvm9 hw9 hB9 hz9 hk9 hS => ?_)
      obtain ⟨hP, -⟩ := hB9
      rw [ht9] at hP
      generalize H1 = H at hP hS ⊢
      obtain ⟨μi, eμi⟩ : ∃ x : va_M, x = u9 := ⟨_, rfl⟩
      rw [← eμi] at hP hw9
      have hμi := hw9; clear hw9
      obtain ⟨f1_, a1_⟩ := hμi
      refine lv_iinc (v := iZ (i - 1)) (lv' := [(8, .int (iZ (i - 1))), (7, .int (iZ (k * (μ0 q 5 + 1)))), (6, .int (iZ (k))), (5, .int (iZ (μ0 q 5 + 1))), (4, .int (iZ (hw))), (3, .int (iZ (n))), (2, .ref (h0 + kc)), (1, .ref (h0 + q)), (0, .ref (h0 + 45))]) hx hb dX8_goThrough_85 hl (k := 0) rfl (iZ_add _ (-1)) (by decide) rfl (fun ls hl => ?_)
      refine lv_goto (tgt := 67) hx hb dX8_goThrough_88 (by decide) ?_
      exact ih (i - 1) μi H locs ls (by (first | ((try clear a1_); (try clear f1_); (try clear hμi); (try clear x); (try clear eμi); (try clear μi); (try clear hz9); (try clear c69_); (try clear x5); (try clear hqf); (try clear hqb); (try clear hrm); (try clear hm9); (try clear hA); (try clear hf); (try clear hi); (try clear hexit91); (try clear h_w); (try clear h_n); (try clear hE); (try clear hkc); (try clear hRs); (try clear hRc); (try clear hRl); (try clear hRf); omega) | omega)) (by (first | ((try clear a1_); (try clear f1_); (try clear hμi); (try clear x); (try clear eμi); (try clear μi); (try clear hz9); (try clear hqf); (try clear hqb); (try clear hrm); (try clear hm9); (try clear hA); (try clear hf); (try clear hk); (try clear hexit91); (try clear h_w); (try clear h_n); (try clear hE); (try clear hkc); (try clear hRs); (try clear hRc); (try clear hRl); (try clear hRf); omega) | omega)) (by exact fr_trans hf f1_) (by exact a1_) (by (first | ((try clear a1_); (try clear f1_); (try clear hμi); (try clear x); (try clear eμi); (try clear μi); (try clear hz9); (try clear x5); (try clear hA); (try clear hf); (try clear hi); (try clear hk); (try clear hexit91); (try clear h_w); (try clear h_n); (try clear hE); (try clear hkc); (try clear hRs); (try clear hRc); (try clear hRl); (try clear hRf); omega) | omega)) hP hS (lv_sub hl [0, 1, 2, 3, 4, 5, 6, 7, 8] rfl)
set_option maxHeartbeats 4000000 in
set_option maxRecDepth 100000 in
theorem LX8_goThrough_99 {p : Program} {l : Launch} {e : Env} {R : Room} {s : State} {m : MethodId} {args : Array Value} {below : List Frame} {meth : Method} {c : Code} {cells slots : Nat} {Q : State → Prop} {dC : Nat → ClassId} {dI : Nat → Nat → Nat} {h0 : Nat} {cI cZ cII cIII : ClassId} (hx : p.tables.exec = Jvm.exec) (hb : c.code = cX8_goThrough) (hml : c.maxLocals = 9) (hown : s.vm.findClass RX8 = some m.cls) (hts : ∀ w ∈ wsG, w.before args s = true) (hK : va_K (dC, dI) vwCl (sT cI cZ cII cIII) s) (hM : xM s) (hRf : 4 ≤ R.frames) (hRl : 85 ≤ R.locals) (hRc : cells ≤ R.cells) (hRs : slots ≤ R.slots) (μ0 : va_M) (q : Nat) (rm : Nat) (kc : Nat) (nc : Nat) (n : Int) (hw : Int) (k : Int) (hq : rowB q rm) (hG : rG μ0 q rm) (hkc : 110 ≤ kc ∧ kc < 233 ∧ 60 ≤ nc ∧ nc ≤ 1101) (hE : ∀ f, sE cI cZ cII cIII h0 kc f = .inl (cI, nc, .inl f)) (hcr : ∀ j, inR (μ0 kc j)) (h_n : 0 ≤ n ∧ n ≤ 60) (h_w : 0 ≤ hw ∧ hw ≤ 2) (hexit121 : ∀ (i : Int) (μ : va_M) (H : Heap) (locs : List Loc) (ls : Array Slot), (0 ≤ k ∧ k ≤ n) → (fr (fun x _ => x = 46 ∨ x = 47) μ0 μ) → (aB μ) → va_P (dC, dI) vwCl (fw (sE cI cZ cII cIII h0) h0 233 μ) H → va_S (fA h0 233 s.heap.size) s.heap H locs → lv_has ls 9 [(7, .int (iZ (k * (μ0 q 5 + 1)))), (6, .int (iZ (k))), (5, .int (iZ (μ0 q 5 + 1))), (4, .int (iZ (hw))), (3, .int (iZ (n))), (2, .ref (h0 + kc)), (1, .ref (h0 + q)), (0, .ref (h0 + 45))] → W p l e R s m args below meth c H locs cells slots Q (F0 m 121 ls [])) :
    ∀ (n9 : Nat) (i : Int) (μ : va_M) (H : Heap) (locs : List Loc) (ls : Array Slot), (0 ≤ k ∧ k ≤ n) → (-1 ≤ i ∧ i < μ0 q 5) → (fr (fun x _ => x = 46 ∨ x = 47) μ0 μ) → (aB μ) → (i + 1).toNat < n9 → va_P (dC, dI) vwCl (fw (sE cI cZ cII cIII h0) h0 233 μ) H → va_S (fA h0 233 s.heap.size) s.heap H locs → lv_has ls 9 [(8, .int (iZ (i))), (7, .int (iZ (k * (μ0 q 5 + 1)))), (6, .int (iZ (k))), (5, .int (iZ (μ0 q 5 + 1))), (4, .int (iZ (hw))), (3, .int (iZ (n))), (2, .ref (h0 + kc)), (1, .ref (h0 + q)), (0, .ref (h0 + 45))] → W p l e R s m args below meth c H locs cells slots Q (F0 m 99 ls []) := by
  intro n9
  induction n9 with
  | zero => intro i μ H locs ls hk hi hf hA hm9 hP hS hl; exact absurd hm9 (Nat.not_lt_zero _)
  | succ n9 ih =>
    intro i μ H locs ls hk hi hf hA hm9 hP hS hl
    have hrm := rG_rm hq hG
    have hqb := rowB_b hq
    have hqf := rowB_f hq
    have x5 : μ q 5 = μ0 q 5 := hf _ _ (by (first | ((try clear x5); (try clear hqb); (try clear hrm); (try clear hm9); (try clear hA); (try clear hf); (try clear hi); (try clear hk); (try clear hexit121); (try clear h_w); (try clear h_n); (try clear hE); (try clear hkc); (try clear hRs); (try clear hRc); (try clear hRl); (try clear hRf); omega) | omega))
    have hG1 : rG μ q rm := rG_fr hG (fun x y h8 h9 => hf _ _ (by (first | ((try clear y); (try clear x5); (try clear hrm); (try clear hm9); (try clear hA); (try clear hf); (try clear hi); (try clear hk); (try clear hexit121); (try clear h_w); (try clear h_n); (try clear hE); (try clear hkc); (try clear hRs); (try clear hRc); (try clear hRl); (try clear hRf); omega) | omega)))
    have hc1 : ∀ j, inR (μ kc j) := fun j => by rw [hf _ _ (by (first | ((try clear j); (try clear x5); (try clear hqf); (try clear hqb); (try clear hrm); (try clear hm9); (try clear hA); (try clear hf); (try clear hi); (try clear hk); (try clear hexit121); (try clear h_w); (try clear h_n); (try clear hE); (try clear hRs); (try clear hRc); (try clear hRl); (try clear hRf); omega) | omega))]; exact hcr j
    refine lv_iload hx hb dX8_goThrough_99 (lv_at hl 0 rfl) ?_
    refine fz_if_lt (tgt := 121) (by constructor <;> (first | ((try clear hm9); (try clear hA); (try clear hf); (try clear hk); (try clear hexit121); (try clear h_w); (try clear h_n); (try clear hE); (try clear hkc); (try clear hRs); (try clear hRc); (try clear hRl); (try clear hRf); omega) | omega)) hx hb dX8_goThrough_101 (by decide) (fun c101_ => ?_) (fun c101_ => ?_)
    · exact hexit121 (i) μ H locs ls (by exact hk) (by exact hf) (by exact hA) hP hS (lv_sub hl [1, 2, 3, 4, 5, 6, 7, 8] rfl)
    · have mb := mulB k (μ0 q 5 + 1) (by (first | ((try clear mb); (try clear c101_); (try clear x5); (try clear hqf); (try clear hqb); (try clear hrm); (try clear hm9); (try clear hA); (try clear hf); (try clear hi); (try clear hexit121); (try clear h_w); (try clear h_n); (try clear hE); (try clear hkc); (try clear hRs); (try clear hRc); (try clear hRl); (try clear hRf); omega) | omega)) (by (first | ((try clear mb); (try clear c101_); (try clear x5); (try clear hqf); (try clear hqb); (try clear hrm); (try clear hm9); (try clear hA); (try clear hf); (try clear hi); (try clear hexit121); (try clear h_w); (try clear hE); (try clear hkc); (try clear hRs); (try clear hRc); (try clear hRl); (try clear hRf); omega) | omega)) (by (first | ((try clear mb); (try clear c101_); (try clear hqf); (try clear hqb); (try clear hm9); (try clear hA); (try clear hf); (try clear hi); (try clear hk); (try clear hexit121); (try clear h_w); (try clear h_n); (try clear hE); (try clear hkc); (try clear hRs); (try clear hRc); (try clear hRl); (try clear hRf); omega) | omega)) (by (first | ((try clear mb); (try clear c101_); (try clear hm9); (try clear hA); (try clear hf); (try clear hi); (try clear hk); (try clear hexit121); (try clear h_w); (try clear h_n); (try clear hE); (try clear hkc); (try clear hRs); (try clear hRc); (try clear hRl); (try clear hRf); omega) | omega))
      refine lv_aload_n hx hb dX8_goThrough_104 rfl (lv_at hl 8 rfl) ?_
      refine lv_aload_n hx hb dX8_goThrough_105 rfl (lv_at hl 7 rfl) ?_
      refine lv_iload hx hb dX8_goThrough_106 (lv_at hl 0 rfl) ?_
      refine lv_iload hx hb dX8_goThrough_108 (lv_at hl 1 rfl) ?_
      refine lv_iload hx hb dX8_goThrough_110 (lv_at hl 4 rfl) ?_
      refine va_callv (va_runV (As := [.ref (h0 + q), .int (iZ (i)), .int (iZ (k * (μ0 q 5 + 1))), .int (iZ (hw))]) (rest := []) ⟨hx, hb, hml, hown, hts⟩ (s_WgoOn l dC dI cI cZ cII cIII h0 H.size μ (q) (rm) (i) (k * (μ0 q 5 + 1)) (hw) (hq) (by exact hG1) (by exact hA) (by first | assumption | (first | ((try clear mb); (try clear hqf); (try clear hqb); (try clear hrm); (try clear hm9); (try clear hA); (try clear hf); (try clear hk); (try clear hexit121); (try clear h_w); (try clear h_n); (try clear hE); (try clear hkc); (try clear hRs); (try clear hRc); (try clear hRl); (try clear hRf); omega) | omega) | exact ⟨by omega, by omega⟩) (by first | assumption | (first | ((try clear c101_); (try clear x5); (try clear hqf); (try clear hqb); (try clear hrm); (try clear hm9); (try clear hA); (try clear hf); (try clear hi); (try clear hk); (try clear hexit121); (try clear h_w); (try clear h_n); (try clear hE); (try clear hkc); (try clear hRs); (try clear hRc); (try clear hRl); (try clear hRf); omega) | omega) | exact ⟨by omega, by omega⟩) (by first | assumption | omega | exact ⟨by omega, by omega⟩)) (cwV 4 hts (gV_G k570 k572 ks_yX8_goOn k8 k573) rfl rfl rfl (by decide +kernel) ⟨by show 2 + 1 ≤ _; (first | ((try clear mb); (try clear c101_); (try clear x5); (try clear hqf); (try clear hqb); (try clear hrm); (try clear hm9); (try clear hA); (try clear hf); (try clear hi); (try clear hk); (try clear hexit121); (try clear h_w); (try clear h_n); (try clear hE); (try clear hkc); (try clear hRs); (try clear hRc); (try clear hRl); omega) | omega), by show 8 + (7 + 11) + (43) ≤ _; (first | ((try clear mb); (try clear c101_); (try clear x5); (try clear hqf); (try clear hqb); (try clear hrm); (try clear hm9); (try clear hA); (try clear hf); (try clear hi); (try clear hk); (try clear hexit121); (try clear h_w); (try clear h_n); (try clear hE); (try clear hkc); (try clear hRs); (try clear hRc); (try clear hRf); omega) | omega)⟩) ⟨fun a U g mk q => by obtain ⟨q0, q1, qP, qK, qM⟩ := q; exact ⟨q0, q1, qP, va_K.moved (u := U) (U := U.calling g mk a) (Vm.Alike.refl U.vm) qK, qM⟩, va_recv hK hP (ci := 8) (q0 := 45) rfl ((fw_get (by decide)).trans (by rw [sE_45])), fun U hU hW => ⟨rfl, by rw [hU], by rw [hU]; exact hP, va_K.moved hW.alike hK, xM_warm hW hM⟩⟩ rfl rfl hl.1 rfl (lv_room (Nat.le_of_ble_eq_true rfl)) dX8_goThrough_112 ⟨hRc, hRs⟩) hS (fun q _ h => fA_le hS.1 q h) (fA_le hS.1) (fun u9 t9 H1 locs ht9 hvm9 hw9 hB9 hz9 hk9 hS => ?_)
      obtain ⟨hP, -⟩ := hB9
      rw [ht9] at hP
      generalize H1 = H at hP hS ⊢
      obtain ⟨μo, eμo⟩ : ∃ x : va_M, x = u9 := ⟨_, rfl⟩
      rw [← eμo] at hP hw9
      have hμo := hw9; clear hw9
      obtain ⟨f1_, a1_⟩ := hμo
      refine lv_iinc (v := iZ (i - 1)) (lv' := [(8, .int (iZ (i - 1))), (7, .int (iZ (k * (μ0 q 5 + 1)))), (6, .int (iZ (k))), (5, .int (iZ (μ0 q 5 + 1))), (4, .int (iZ (hw))), (3, .int (iZ (n))), (2, .ref (h0 + kc)), (1, .ref (h0 + q)), (0, .ref (h0 + 45))]) hx hb dX8_goThrough_115 hl (k := 0) rfl (iZ_add _ (-1)) (by decide) rfl (fun ls hl => ?_)
      refine lv_goto (tgt := 99) hx hb dX8_goThrough_118 (by decide) ?_
      exact ih (i - 1) μo H locs ls (by (first | ((try clear a1_); (try clear f1_); (try clear hμo); (try clear x); (try clear eμo); (try clear μo); (try clear hz9); (try clear mb); (try clear c101_); (try clear x5); (try clear hqf); (try clear hqb); (try clear hrm); (try clear hm9); (try clear hA); (try clear hf); (try clear hi); (try clear hexit121); (try clear h_w); (try clear h_n); (try clear hE); (try clear hkc); (try clear hRs); (try clear hRc); (try clear hRl); (try clear hRf); omega) | omega)) (by (first | ((try clear a1_); (try clear f1_); (try clear hμo); (try clear x); (try clear eμo); (try clear μo); (try clear hz9); (try clear mb); (try clear hqf); (try clear hqb); (try clear hrm); (try clear hm9); (try clear hA); (try clear hf); (try clear hk); (try clear hexit121); (try clear h_w); (try clear h_n); (try clear hE); (try clear hkc); (try clear hRs); (try clear hRc); (try clear hRl); (try clear hRf); omega) | omega)) (by exact fr_trans hf f1_) (by exact a1_) (by (first | ((try clear a1_); (try clear f1_); (try clear hμo); (try clear x); (try clear eμo); (try clear μo); (try clear hz9); (try clear x5); (try clear hA); (try clear hf); (try clear hi); (try clear hk); (try clear hexit121); (try clear h_w); (try clear h_n); (try clear hE); (try clear hkc); (try clear hRs); (try clear hRc); (try clear hRl); (try clear hRf); omega) | omega)) hP hS (lv_sub hl [0, 1, 2, 3, 4, 5, 6, 7, 8] rfl)
set_option maxHeartbeats 4000000 in
set_option maxRecDepth 100000 in
theorem LX8_goThrough_11 {p : Program} {l : Launch} {e : Env} {R : Room} {s : State} {m : MethodId} {args : Array Value} {below : List Frame} {meth : Method} {c : Code} {cells slots : Nat} {Q : State → Prop} {dC : Nat → ClassId} {dI : Nat → Nat → Nat} {h0 : Nat} {cI cZ cII cIII : ClassId} (hx : p.tables.exec = Jvm.exec) (hb : c.code = cX8_goThrough) (hml : c.maxLocals = 9) (hown : s.vm.findClass RX8 = some m.cls) (hts : ∀ w ∈ wsG, w.before args s = true) (hK : va_K (dC, dI) vwCl (sT cI cZ cII cIII) s) (hM : xM s) (hRf : 4 ≤ R.frames) (hRl : 85 ≤ R.locals) (hRc : cells ≤ R.cells) (hRs : slots ≤ R.slots) (μ0 : va_M) (q : Nat) (rm : Nat) (kc : Nat) (nc : Nat) (n : Int) (hw : Int) (hq : rowB q rm) (hG : rG μ0 q rm) (hkc : 110 ≤ kc ∧ kc < 233 ∧ 60 ≤ nc ∧ nc ≤ 1101) (hE : ∀ f, sE cI cZ cII cIII h0 kc f = .inl (cI, nc, .inl f)) (hcr : ∀ j, inR (μ0 kc j)) (h_n : 0 ≤ n ∧ n ≤ 60) (h_w : 0 ≤ hw ∧ hw ≤ 2) (hexit127 : ∀ (k : Int) (i : Int) (μ : va_M) (H : Heap) (locs : List Loc) (ls : Array Slot), (fr (fun x _ => x = 46 ∨ x = 47) μ0 μ) → (aB μ) → va_P (dC, dI) vwCl (fw (sE cI cZ cII cIII h0) h0 233 μ) H → va_S (fA h0 233 s.heap.size) s.heap H locs → lv_has ls 9 [(0, .ref (h0 + 45))] → W p l e R s m args below meth c H locs cells slots Q (F0 m 127 ls [])) :
    ∀ (n9 : Nat) (k : Int) (i : Int) (μ : va_M) (H : Heap) (locs : List Loc) (ls : Array Slot), (-1 ≤ k ∧ k ≤ n) → (fr (fun x _ => x = 46 ∨ x = 47) μ0 μ) → (aB μ) → (k + 1).toNat < n9 → va_P (dC, dI) vwCl (fw (sE cI cZ cII cIII h0) h0 233 μ) H → va_S (fA h0 233 s.heap.size) s.heap H locs → lv_has ls 9 [(6, .int (iZ (k))), (5, .int (iZ (μ0 q 5 + 1))), (4, .int (iZ (hw))), (3, .int (iZ (n))), (2, .ref (h0 + kc)), (1, .ref (h0 + q)), (0, .ref (h0 + 45))] → W p l e R s m args below meth c H locs cells slots Q (F0 m 11 ls []) := by
  intro n9
  induction n9 with
  | zero => intro k i μ H locs ls hk hf hA hm9 hP hS hl; exact absurd hm9 (Nat.not_lt_zero _)
  | succ n9 ih =>
    intro k i μ H locs ls hk hf hA hm9 hP hS hl
    have hrm := rG_rm hq hG
    have hqb := rowB_b hq
    have hqf := rowB_f hq
    have x5 : μ q 5 = μ0 q 5 := hf _ _ (by (first | ((try clear x5); (try clear hqb); (try clear hrm); (try clear hm9); (try clear hA); (try clear hf); (try clear hk); (try clear hexit127); (try clear h_w); (try clear h_n); (try clear hE); (try clear hkc); (try clear hRs); (try clear hRc); (try clear hRl); (try clear hRf); omega) | omega))
    have hG1 : rG μ q rm := rG_fr hG (fun x y h8 h9 => hf _ _ (by (first | ((try clear y); (try clear x5); (try clear hrm); (try clear hm9); (try clear hA); (try clear hf); (try clear hk); (try clear hexit127); (try clear h_w); (try clear h_n); (try clear hE); (try clear hkc); (try clear hRs); (try clear hRc); (try clear hRl); (try clear hRf); omega) | omega)))
    have hc1 : ∀ j, inR (μ kc j) := fun j => by rw [hf _ _ (by (first | ((try clear j); (try clear x5); (try clear hqf); (try clear hqb); (try clear hrm); (try clear hm9); (try clear hA); (try clear hf); (try clear hk); (try clear hexit127); (try clear h_w); (try clear h_n); (try clear hE); (try clear hRs); (try clear hRc); (try clear hRl); (try clear hRf); omega) | omega))]; exact hcr j
    refine lv_iload hx hb dX8_goThrough_11 (lv_at hl 0 rfl) ?_
    refine fz_if_lt (tgt := 127) (by constructor <;> (first | ((try clear x5); (try clear hqf); (try clear hqb); (try clear hrm); (try clear hm9); (try clear hA); (try clear hf); (try clear hexit127); (try clear h_w); (try clear hE); (try clear hkc); (try clear hRs); (try clear hRc); (try clear hRl); (try clear hRf); omega) | omega)) hx hb dX8_goThrough_13 (by decide) (fun c13_ => ?_) (fun c13_ => ?_)
    · exact hexit127 (k) (i) μ H locs ls (by exact hf) (by exact hA) hP hS (lv_sub hl [6] rfl)
    · have mb := mulB k (μ0 q 5 + 1) (by (first | ((try clear mb); (try clear x5); (try clear hqf); (try clear hqb); (try clear hrm); (try clear hm9); (try clear hA); (try clear hf); (try clear hk); (try clear hexit127); (try clear h_w); (try clear h_n); (try clear hE); (try clear hkc); (try clear hRs); (try clear hRc); (try clear hRl); (try clear hRf); omega) | omega)) (by (first | ((try clear mb); (try clear c13_); (try clear x5); (try clear hqf); (try clear hqb); (try clear hrm); (try clear hm9); (try clear hA); (try clear hf); (try clear hexit127); (try clear h_w); (try clear hE); (try clear hkc); (try clear hRs); (try clear hRc); (try clear hRl); (try clear hRf); omega) | omega)) (by (first | ((try clear mb); (try clear c13_); (try clear hqf); (try clear hqb); (try clear hm9); (try clear hA); (try clear hf); (try clear hk); (try clear hexit127); (try clear h_w); (try clear h_n); (try clear hE); (try clear hkc); (try clear hRs); (try clear hRc); (try clear hRl); (try clear hRf); omega) | omega)) (by (first | ((try clear mb); (try clear c13_); (try clear hm9); (try clear hA); (try clear hf); (try clear hk); (try clear hexit127); (try clear h_w); (try clear h_n); (try clear hE); (try clear hkc); (try clear hRs); (try clear hRc); (try clear hRl); (try clear hRf); omega) | omega))
      refine lv_iload hx hb dX8_goThrough_16 (lv_at hl 0 rfl) ?_
      refine lv_iload hx hb dX8_goThrough_18 (lv_at hl 1 rfl) ?_
      refine lv_imul hx hb dX8_goThrough_20 ?_
      refine lv_topi (fun x9 ex9 => ?_)
      obtain rfl : x9 = iZ (k * (μ0 q 5 + 1)) := ex9.trans (iZ_mul _ _)
      refine lv_istore (lv' := [(7, .int (iZ (k * (μ0 q 5 + 1)))), (6, .int (iZ (k))), (5, .int (iZ (μ0 q 5 + 1))), (4, .int (iZ (hw))), (3, .int (iZ (n))), (2, .ref (h0 + kc)), (1, .ref (h0 + q)), (0, .ref (h0 + 45))]) hx hb dX8_goThrough_21 hl (by decide) rfl (fun ls hl => ?_)
      refine lv_aload_n hx hb dX8_goThrough_23 rfl (lv_at hl 7 rfl) ?_
      refine fz_get (D := (dC, dI)) (ci := 8) (v := .ref (h0 + 46)) (C := RX8) (T := TX8) (N := 2) hx hb hts inG8 hown hK hP (k := 45) (by decide) (F := (sF45 h0)) sE_45 rfl 0 (by decide) (hts _ k211) (fun _ h9 => h9) rfl dX8_goThrough_24 ?_
      refine lv_iload hx hb dX8_goThrough_27 (lv_at hl 0 rfl) ?_
      refine lv_aload_n hx hb dX8_goThrough_29 rfl (lv_at hl 6 rfl) ?_
      refine fz_get (D := (dC, dI)) (ci := 4) (v := .int (iZ (μ q 5))) (C := RX4) (T := TX4) (N := 8) hx hb hts inG4 hown hK hP (k := q) (by (first | ((try clear ex9); (try clear mb); (try clear c13_); (try clear x5); (try clear hqf); (try clear hrm); (try clear hm9); (try clear hA); (try clear hf); (try clear hk); (try clear hexit127); (try clear h_w); (try clear h_n); (try clear hE); (try clear hkc); (try clear hRs); (try clear hRc); (try clear hRl); (try clear hRf); omega) | omega)) (F := (sRF h0 q)) (sE_rowO hq) rfl 5 (by decide) (hts _ k93) (fun _ h9 => h9) rfl dX8_goThrough_30 ?_
      refine lv_iadd hx hb dX8_goThrough_33 ?_
      refine lv_topi (fun x9 ex9 => ?_)
      obtain rfl : x9 = iZ ((k * (μ0 q 5 + 1)) + (μ q 5)) := ex9.trans (iZ_add _ _)
      refine lv_iload hx hb dX8_goThrough_34 (lv_at hl 1 rfl) ?_
      refine lv_iload_n hx hb dX8_goThrough_36 rfl (lv_at hl 4 rfl) ?_
      refine lv_iload hx hb dX8_goThrough_37 (lv_at hl 3 rfl) ?_
      refine va_calli (va_runS (As := [.int (iZ (k)), .int (iZ (n)), .int (iZ (hw))]) (rest := [.int (iZ ((k * (μ0 q 5 + 1)) + (μ q 5))), .ref (h0 + 46)]) ⟨hx, hb, hml, hown, hts⟩ (s_WatEnd l dC dI cI cZ cII cIII h0 H.size μ (k) (n) (hw) (by constructor <;> (first | ((try clear ex9); (try clear mb); (try clear x5); (try clear hqf); (try clear hqb); (try clear hrm); (try clear hm9); (try clear hA); (try clear hf); (try clear hexit127); (try clear h_w); (try clear hE); (try clear hkc); (try clear hRs); (try clear hRc); (try clear hRl); (try clear hRf); omega) | omega)) (by constructor <;> (first | ((try clear ex9); (try clear mb); (try clear c13_); (try clear x5); (try clear hqf); (try clear hqb); (try clear hrm); (try clear hm9); (try clear hA); (try clear hf); (try clear hk); (try clear hexit127); (try clear h_w); (try clear hE); (try clear hkc); (try clear hRs); (try clear hRc); (try clear hRl); (try clear hRf); omega) | omega)) (by constructor <;> (first | ((try clear ex9); (try clear mb); (try clear c13_); (try clear x5); (try clear hqf); (try clear hqb); (try clear hrm); (try clear hm9); (try clear hA); (try clear hf); (try clear hk); (try clear hexit127); (try clear h_n); (try clear hE); (try clear hkc); (try clear hRs); (try clear hRc); (try clear hRl); (try clear hRf); omega) | omega))) (cwS 3 hts (gS_G k547 k548 k8 k549) rfl rfl rfl (by decide +kernel) ⟨by show 1 + 1 ≤ _; (first | ((try clear ex9); (try clear mb); (try clear c13_); (try clear x5); (try clear hqf); (try clear hqb); (try clear hrm); (try clear hm9); (try clear hA); (try clear hf); (try clear hk); (try clear hexit127); (try clear h_w); (try clear h_n); (try clear hE); (try clear hkc); (try clear hRs); (try clear hRc); (try clear hRl); omega) | omega), by show 8 + (3 + 11) + (14) ≤ _; (first | ((try clear ex9); (try clear mb); (try clear c13_); (try clear x5); (try clear hqf); (try clear hqb); (try clear hrm); (try clear hm9); (try clear hA); (try clear hf); (try clear hk); (try clear hexit127); (try clear h_w); (try clear h_n); (try clear hE); (try clear hkc); (try clear hRs); (try clear hRc); (try clear hRf); omega) | omega)⟩) ⟨fun a U g mk q => by obtain ⟨q0, q1, qP, qK, qM⟩ := q; exact ⟨q0, q1, qP, va_K.moved (u := U) (U := U.calling g mk a) (Vm.Alike.refl U.vm) qK, qM⟩, fun U hU hW => ⟨rfl, by rw [hU], by rw [hU]; exact hP, va_K.moved hW.alike hK, xM_warm hW hM⟩⟩ rfl rfl hl.1 rfl (lv_room (Nat.le_of_ble_eq_true rfl)) dX8_goThrough_39 ⟨hRc, hRs⟩) hS (fun q _ h => fA_le hS.1 q h) (fA_le hS.1) (fun r9 u9 t9 H1 locs ht9 hvm9 hw9 hB9 hz9 hk9 hS => ?_)
      obtain ⟨μe, re⟩ := u9
      obtain ⟨hP, -⟩ := hB9
      rw [ht9] at hP
      generalize H1 = H at hP hS ⊢
      obtain ⟨e9, hw9⟩ := hw9
      have e9 : r9 = iZ re := e9
      subst e9
      simp only at hP hw9
      have hμe := hw9; clear hw9
      rw [hμe.1] at hP; have hμe := hμe.2
      have hre := at_b hμe (by (first | ((try clear hre); (try clear hμe); (try clear μe); (try clear hz9); (try clear ex9); (try clear mb); (try clear x5); (try clear hqf); (try clear hqb); (try clear hrm); (try clear hm9); (try clear hA); (try clear hf); (try clear hexit127); (try clear h_w); (try clear hE); (try clear hkc); (try clear hRs); (try clear hRc); (try clear hRl); (try clear hRf); omega) | omega))
      refine fz_st (k := 46) (n := 67161) (i := ((k * (μ0 q 5 + 1)) + (μ q 5))) (z := re) hx hb hK hP fA_in hS 0 (by decide) sE_46 rfl ⟨by (first | ((try clear hre); (try clear hμe); (try clear μe); (try clear hz9); (try clear ex9); (try clear c13_); (try clear hqf); (try clear hqb); (try clear hm9); (try clear hA); (try clear hf); (try clear hk); (try clear hexit127); (try clear h_w); (try clear h_n); (try clear hE); (try clear hkc); (try clear hRs); (try clear hRc); (try clear hRl); (try clear hRf); omega) | omega), by (first | ((try clear hre); (try clear hμe); (try clear μe); (try clear hz9); (try clear ex9); (try clear c13_); (try clear hm9); (try clear hA); (try clear hf); (try clear hexit127); (try clear hE); (try clear hkc); (try clear hRs); (try clear hRc); (try clear hRl); (try clear hRf); omega) | omega)⟩ (by decide) dX8_goThrough_42 (fun H locs hP hS => ?_)
      obtain ⟨μ1, eμ1⟩ : ∃ x : va_M, x = uz μ 46 ((k * (μ0 q 5 + 1)) + (μ q 5)).toNat (re) := ⟨_, rfl⟩
      rw [← eμ1] at hP
      have x8 : μ1 q 5 = μ0 q 5 := by rw [eμ1, uz_n (by (first | ((try clear x8); (try clear x); (try clear eμ1); (try clear μ1); (try clear hre); (try clear hμe); (try clear μe); (try clear hz9); (try clear ex9); (try clear c13_); (try clear x5); (try clear hqb); (try clear hrm); (try clear hm9); (try clear hA); (try clear hf); (try clear hexit127); (try clear hE); (try clear hkc); (try clear hRs); (try clear hRc); (try clear hRl); (try clear hRf); omega) | omega))]; exact x5
      refine lv_aload_n hx hb dX8_goThrough_43 rfl (lv_at hl 7 rfl) ?_
      refine fz_get (D := (dC, dI)) (ci := 8) (v := .ref (h0 + 47)) (C := RX8) (T := TX8) (N := 2) hx hb hts inG8 hown hK hP (k := 45) (by decide) (F := (sF45 h0)) sE_45 rfl 1 (by decide) (hts _ k212) (fun _ h9 => h9) rfl dX8_goThrough_44 ?_
      refine lv_aload_n hx hb dX8_goThrough_47 rfl (lv_at hl 6 rfl) ?_
      refine fz_get (D := (dC, dI)) (ci := 4) (v := .int (iZ (μ1 q 5))) (C := RX4) (T := TX4) (N := 8) hx hb hts inG4 hown hK hP (k := q) (by (first | ((try clear x8); (try clear x); (try clear eμ1); (try clear hre); (try clear hμe); (try clear μe); (try clear hz9); (try clear ex9); (try clear mb); (try clear c13_); (try clear x5); (try clear hqf); (try clear hrm); (try clear hm9); (try clear hA); (try clear hf); (try clear hk); (try clear hexit127); (try clear h_w); (try clear h_n); (try clear hE); (try clear hkc); (try clear hRs); (try clear hRc); (try clear hRl); (try clear hRf); omega) | omega)) (F := (sRF h0 q)) (sE_rowO hq) rfl 5 (by decide) (hts _ k93) (fun _ h9 => h9) rfl dX8_goThrough_48 ?_
      refine lv_iload hx hb dX8_goThrough_51 (lv_at hl 1 rfl) ?_
      refine lv_iload hx hb dX8_goThrough_53 (lv_at hl 3 rfl) ?_
      refine va_calli (va_runS (As := [.int (iZ (k)), .int (iZ (hw))]) (rest := [.int (iZ (μ1 q 5)), .ref (h0 + 47)]) ⟨hx, hb, hml, hown, hts⟩ (s_Wnothing l dC dI cI cZ cII cIII h0 H.size μ1 (k) (hw) (by constructor <;> (first | ((try clear x8); (try clear x); (try clear eμ1); (try clear hre); (try clear hμe); (try clear μe); (try clear hz9); (try clear ex9); (try clear mb); (try clear x5); (try clear hqf); (try clear hqb); (try clear hrm); (try clear hm9); (try clear hA); (try clear hf); (try clear hexit127); (try clear h_w); (try clear hE); (try clear hkc); (try clear hRs); (try clear hRc); (try clear hRl); (try clear hRf); omega) | omega)) (by constructor <;> (first | ((try clear x8); (try clear x); (try clear eμ1); (try clear hre); (try clear hμe); (try clear μe); (try clear hz9); (try clear ex9); (try clear mb); (try clear c13_); (try clear x5); (try clear hqf); (try clear hqb); (try clear hrm); (try clear hm9); (try clear hA); (try clear hf); (try clear hk); (try clear hexit127); (try clear h_n); (try clear hE); (try clear hkc); (try clear hRs); (try clear hRc); (try clear hRl); (try clear hRf); omega) | omega))) (cwS 2 hts (gS_G k550 k551 k8 k552) rfl rfl rfl (by decide +kernel) ⟨by show 1 + 1 ≤ _; (first | ((try clear x8); (try clear x); (try clear eμ1); (try clear hre); (try clear hμe); (try clear μe); (try clear hz9); (try clear ex9); (try clear mb); (try clear c13_); (try clear x5); (try clear hqf); (try clear hqb); (try clear hrm); (try clear hm9); (try clear hA); (try clear hf); (try clear hk); (try clear hexit127); (try clear h_w); (try clear h_n); (try clear hE); (try clear hkc); (try clear hRs); (try clear hRc); (try clear hRl); omega) | omega), by show 8 + (2 + 11) + (14) ≤ _; (first | ((try clear x8); (try clear x); (try clear eμ1); (try clear hre); (try clear hμe); (try clear μe); (try clear hz9); (try clear ex9); (try clear mb); (try clear c13_); (try clear x5); (try clear hqf); (try clear hqb); (try clear hrm); (try clear hm9); (try clear hA); (try clear hf); (try clear hk); (try clear hexit127); (try clear h_w); (try clear h_n); (try clear hE); (try clear hkc); (try clear hRs); (try clear hRc); (try clear hRf); omega) | omega)⟩) ⟨fun a U g mk q => by obtain ⟨q0, q1, qP, qK, qM⟩ := q; exact ⟨q0, q1, qP, va_K.moved (u := U) (U := U.calling g mk a) (Vm.Alike.refl U.vm) qK, qM⟩, fun U hU hW => ⟨rfl, by rw [hU], by rw [hU]; exact hP, va_K.moved hW.alike hK, xM_warm hW hM⟩⟩ rfl rfl hl.1 rfl (lv_room (Nat.le_of_ble_eq_true rfl)) dX8_goThrough_55 ⟨hRc, hRs⟩) hS (fun q _ h => fA_le hS.1 q h) (fA_le hS.1) (fun r9 u9 t9 H1 locs ht9 hvm9 hw9 hB9 hz9 hk9 hS => ?_)
      obtain ⟨μn, rn⟩ := u9
      obtain ⟨hP, -⟩ := hB9
      rw [ht9] at hP
      generalize H1 = H at hP hS ⊢
      obtain ⟨e9, hw9⟩ := hw9
      have e9 : r9 = iZ rn := e9
      subst e9
      simp only at hP hw9
      have hμn := hw9; clear hw9
      rw [hμn.1] at hP; have hμn := hμn.2
      have hrn := nb_b hμn (by (first | ((try clear hrn); (try clear hμn); (try clear μn); (try clear hz9); (try clear x8); (try clear x); (try clear eμ1); (try clear hre); (try clear hμe); (try clear μe); (try clear ex9); (try clear mb); (try clear x5); (try clear hqf); (try clear hqb); (try clear hrm); (try clear hm9); (try clear hA); (try clear hf); (try clear hexit127); (try clear h_w); (try clear hE); (try clear hkc); (try clear hRs); (try clear hRc); (try clear hRl); (try clear hRf); omega) | omega))
      refine fz_st (k := 47) (n := 1101) (i := (μ1 q 5)) (z := rn) hx hb hK hP fA_in hS 0 (by decide) sE_47 rfl ⟨by (first | ((try clear hrn); (try clear hμn); (try clear μn); (try clear hz9); (try clear x); (try clear eμ1); (try clear hre); (try clear hμe); (try clear μe); (try clear ex9); (try clear mb); (try clear c13_); (try clear hqf); (try clear hqb); (try clear hm9); (try clear hA); (try clear hf); (try clear hk); (try clear hexit127); (try clear h_w); (try clear h_n); (try clear hE); (try clear hkc); (try clear hRs); (try clear hRc); (try clear hRl); (try clear hRf); omega) | omega), by (first | ((try clear hrn); (try clear hμn); (try clear μn); (try clear hz9); (try clear x); (try clear eμ1); (try clear hre); (try clear hμe); (try clear μe); (try clear ex9); (try clear c13_); (try clear hm9); (try clear hA); (try clear hf); (try clear hexit127); (try clear hE); (try clear hkc); (try clear hRs); (try clear hRc); (try clear hRl); (try clear hRf); omega) | omega)⟩ (by decide) dX8_goThrough_58 (fun H locs hP hS => ?_)
      obtain ⟨μ2, eμ2⟩ : ∃ x : va_M, x = uz μ1 47 (μ1 q 5).toNat (rn) := ⟨_, rfl⟩
      rw [← eμ2] at hP
      refine lv_aload_n hx hb dX8_goThrough_59 rfl (lv_at hl 6 rfl) ?_
      refine fz_get (D := (dC, dI)) (ci := 4) (v := .int (iZ (μ2 q 5))) (C := RX4) (T := TX4) (N := 8) hx hb hts inG4 hown hK hP (k := q) (by (first | ((try clear x); (try clear eμ2); (try clear μ2); (try clear hrn); (try clear hμn); (try clear μn); (try clear hz9); (try clear x8); (try clear eμ1); (try clear hre); (try clear hμe); (try clear μe); (try clear ex9); (try clear mb); (try clear c13_); (try clear x5); (try clear hqf); (try clear hrm); (try clear hm9); (try clear hA); (try clear hf); (try clear hk); (try clear hexit127); (try clear h_w); (try clear h_n); (try clear hE); (try clear hkc); (try clear hRs); (try clear hRc); (try clear hRl); (try clear hRf); omega) | omega)) (F := (sRF h0 q)) (sE_rowO hq) rfl 5 (by decide) (hts _ k93) (fun _ h9 => h9) rfl dX8_goThrough_60 ?_
      refine lv_iconst (v := iZ 1) hx hb dX8_goThrough_63 rfl ?_
      refine lv_isub hx hb dX8_goThrough_64 ?_
      refine lv_topi (fun x9 ex9 => ?_)
      obtain rfl : x9 = iZ ((μ2 q 5) - 1) := ex9.trans (iZ_sub _ _)
      have x6 : μ2 q 5 = μ0 q 5 := by rw [eμ2, eμ1, uz_n (by (first | ((try clear x6); (try clear ex9); (try clear x); (try clear eμ2); (try clear μ2); (try clear hrn); (try clear hμn); (try clear μn); (try clear hz9); (try clear x8); (try clear eμ1); (try clear hre); (try clear hμe); (try clear μe); (try clear c13_); (try clear x5); (try clear hqb); (try clear hrm); (try clear hm9); (try clear hA); (try clear hf); (try clear hexit127); (try clear hE); (try clear hkc); (try clear hRs); (try clear hRc); (try clear hRl); (try clear hRf); omega) | omega)), uz_n (by (first | ((try clear x6); (try clear ex9); (try clear x); (try clear eμ2); (try clear μ2); (try clear hrn); (try clear hμn); (try clear μn); (try clear hz9); (try clear x8); (try clear eμ1); (try clear hre); (try clear hμe); (try clear μe); (try clear c13_); (try clear x5); (try clear hqb); (try clear hrm); (try clear hm9); (try clear hA); (try clear hf); (try clear hexit127); (try clear hE); (try clear hkc); (try clear hRs); (try clear hRc); (try clear hRl); (try clear hRf); omega) | omega))]; exact x5
      refine lv_istore (lv' := [(8, .int (iZ ((μ2 q 5) - 1))), (7, .int (iZ (k * (μ0 q 5 + 1)))), (6, .int (iZ (k))), (5, .int (iZ (μ0 q 5 + 1))), (4, .int (iZ (hw))), (3, .int (iZ (n))), (2, .ref (h0 + kc)), (1, .ref (h0 + q)), (0, .ref (h0 + 45))]) hx hb dX8_goThrough_65 hl (by decide) rfl (fun ls hl => ?_)
      refine LX8_goThrough_67 hx hb hml hown hts hK hM hRf hRl hRc hRs (μ0) (q) (rm) (kc) (nc) (n) (hw) (k) (by assumption) (by exact hG) (by assumption) (by assumption) (by exact hcr) (by assumption) (by assumption) ?_ _ ((μ2 q 5) - 1) μ2 H locs ls (by (first | ((try clear x6); (try clear ex9); (try clear x); (try clear eμ2); (try clear hrn); (try clear hμn); (try clear μn); (try clear hz9); (try clear x8); (try clear eμ1); (try clear hre); (try clear hμe); (try clear μe); (try clear mb); (try clear x5); (try clear hqf); (try clear hqb); (try clear hrm); (try clear hm9); (try clear hA); (try clear hf); (try clear hexit127); (try clear h_w); (try clear h_n); (try clear hE); (try clear hkc); (try clear hRs); (try clear hRc); (try clear hRl); (try clear hRf); omega) | omega)) (by (first | ((try clear ex9); (try clear x); (try clear eμ2); (try clear hrn); (try clear hμn); (try clear μn); (try clear hz9); (try clear eμ1); (try clear hre); (try clear hμe); (try clear μe); (try clear mb); (try clear c13_); (try clear hqf); (try clear hqb); (try clear hm9); (try clear hA); (try clear hf); (try clear hk); (try clear hexit127); (try clear h_w); (try clear h_n); (try clear hE); (try clear hkc); (try clear hRs); (try clear hRc); (try clear hRl); (try clear hRf); omega) | omega)) (by rw [eμ2, eμ1]; exact fr_uz (fr_uz hf (Or.inl rfl)) (Or.inr rfl)) (by rw [eμ2, eμ1]; exact aB_uz (aB_uz hA (fun _ => by (first | ((try clear x6); (try clear ex9); (try clear x); (try clear eμ2); (try clear hrn); (try clear hμn); (try clear μn); (try clear hz9); (try clear x8); (try clear eμ1); (try clear hμe); (try clear mb); (try clear c13_); (try clear x5); (try clear hqf); (try clear hqb); (try clear hrm); (try clear hm9); (try clear hA); (try clear hf); (try clear hk); (try clear hexit127); (try clear h_w); (try clear h_n); (try clear hE); (try clear hkc); (try clear hRs); (try clear hRc); (try clear hRl); (try clear hRf); omega) | omega))) (fun _ => by (first | ((try clear x6); (try clear ex9); (try clear x); (try clear eμ2); (try clear hμn); (try clear hz9); (try clear x8); (try clear eμ1); (try clear hre); (try clear hμe); (try clear μe); (try clear mb); (try clear c13_); (try clear x5); (try clear hqf); (try clear hqb); (try clear hrm); (try clear hm9); (try clear hA); (try clear hf); (try clear hk); (try clear hexit127); (try clear h_w); (try clear h_n); (try clear hE); (try clear hkc); (try clear hRs); (try clear hRc); (try clear hRl); (try clear hRf); omega) | omega))) (Nat.lt_succ_self _) hP hS (lv_sub hl [0, 1, 2, 3, 4, 5, 6, 7, 8] rfl)
      · intro i_3 μ3_ H locs ls q1_3 q2_3 q3_3 hP hS hl
        have hl : lv_has ls 9 [(7, .int (iZ (k * (μ0 q 5 + 1)))), (6, .int (iZ (k))), (5, .int (iZ (μ0 q 5 + 1))), (4, .int (iZ (hw))), (3, .int (iZ (n))), (2, .ref (h0 + kc)), (1, .ref (h0 + q)), (0, .ref (h0 + 45))] := hl
        have G2 := q2_3
        have G1 := q1_3
        have x7 : μ3_ q 5 = μ0 q 5 := G2 _ _ (by (first | ((try clear x7); (try clear G1); (try clear G2); (try clear q3_3); (try clear q2_3); (try clear q1_3); (try clear μ3_); (try clear i_3); (try clear x6); (try clear ex9); (try clear x); (try clear eμ2); (try clear hrn); (try clear hμn); (try clear μn); (try clear hz9); (try clear x8); (try clear eμ1); (try clear hre); (try clear hμe); (try clear μe); (try clear c13_); (try clear x5); (try clear hqb); (try clear hrm); (try clear hm9); (try clear hA); (try clear hf); (try clear hexit127); (try clear hE); (try clear hkc); (try clear hRs); (try clear hRc); (try clear hRl); (try clear hRf); omega) | omega))
        refine lv_aload_n hx hb dX8_goThrough_91 rfl (lv_at hl 6 rfl) ?_
        refine fz_get (D := (dC, dI)) (ci := 4) (v := .int (iZ (μ3_ q 5))) (C := RX4) (T := TX4) (N := 8) hx hb hts inG4 hown hK hP (k := q) (by (first | ((try clear x7); (try clear G1); (try clear G2); (try clear q3_3); (try clear q2_3); (try clear q1_3); (try clear i_3); (try clear x6); (try clear ex9); (try clear x); (try clear eμ2); (try clear hrn); (try clear hμn); (try clear μn); (try clear hz9); (try clear x8); (try clear eμ1); (try clear hre); (try clear hμe); (try clear μe); (try clear mb); (try clear c13_); (try clear x5); (try clear hqf); (try clear hrm); (try clear hm9); (try clear hA); (try clear hf); (try clear hk); (try clear hexit127); (try clear h_w); (try clear h_n); (try clear hE); (try clear hkc); (try clear hRs); (try clear hRc); (try clear hRl); (try clear hRf); omega) | omega)) (F := (sRF h0 q)) (sE_rowO hq) rfl 5 (by decide) (hts _ k93) (fun _ h9 => h9) rfl dX8_goThrough_92 ?_
        refine lv_iconst (v := iZ 1) hx hb dX8_goThrough_95 rfl ?_
        refine lv_isub hx hb dX8_goThrough_96 ?_
        refine lv_topi (fun x9 ex9 => ?_)
        obtain rfl : x9 = iZ ((μ3_ q 5) - 1) := ex9.trans (iZ_sub _ _)
        refine lv_istore (lv' := [(8, .int (iZ ((μ3_ q 5) - 1))), (7, .int (iZ (k * (μ0 q 5 + 1)))), (6, .int (iZ (k))), (5, .int (iZ (μ0 q 5 + 1))), (4, .int (iZ (hw))), (3, .int (iZ (n))), (2, .ref (h0 + kc)), (1, .ref (h0 + q)), (0, .ref (h0 + 45))]) hx hb dX8_goThrough_97 hl (by decide) rfl (fun ls hl => ?_)
        refine LX8_goThrough_99 hx hb hml hown hts hK hM hRf hRl hRc hRs (μ0) (q) (rm) (kc) (nc) (n) (hw) (k) (by assumption) (by exact hG) (by assumption) (by assumption) (by exact hcr) (by assumption) (by assumption) ?_ _ ((μ3_ q 5) - 1) μ3_ H locs ls (by exact q1_3) (by (first | ((try clear ex9); (try clear G1); (try clear G2); (try clear q3_3); (try clear q2_3); (try clear q1_3); (try clear i_3); (try clear x); (try clear eμ2); (try clear hrn); (try clear hμn); (try clear μn); (try clear hz9); (try clear eμ1); (try clear hre); (try clear hμe); (try clear μe); (try clear mb); (try clear c13_); (try clear hqf); (try clear hqb); (try clear hm9); (try clear hA); (try clear hf); (try clear hk); (try clear hexit127); (try clear h_w); (try clear h_n); (try clear hE); (try clear hkc); (try clear hRs); (try clear hRc); (try clear hRl); (try clear hRf); omega) | omega)) (by exact q2_3) (by exact q3_3) (Nat.lt_succ_self _) hP hS (lv_sub hl [0, 1, 2, 3, 4, 5, 6, 7, 8] rfl)
        · intro i_4 μ4_ H locs ls q1_4 q2_4 q3_4 hP hS hl
          have hl : lv_has ls 9 [(7, .int (iZ (k * (μ0 q 5 + 1)))), (6, .int (iZ (k))), (5, .int (iZ (μ0 q 5 + 1))), (4, .int (iZ (hw))), (3, .int (iZ (n))), (2, .ref (h0 + kc)), (1, .ref (h0 + q)), (0, .ref (h0 + 45))] := hl
          have H1 := q1_4
          refine lv_iinc (v := iZ (k - 1)) (lv' := [(6, .int (iZ (k - 1))), (7, .int (iZ (k * (μ0 q 5 + 1)))), (5, .int (iZ (μ0 q 5 + 1))), (4, .int (iZ (hw))), (3, .int (iZ (n))), (2, .ref (h0 + kc)), (1, .ref (h0 + q)), (0, .ref (h0 + 45))]) hx hb dX8_goThrough_121 hl (k := 1) rfl (iZ_add _ (-1)) (by decide) rfl (fun ls hl => ?_)
          refine lv_goto (tgt := 11) hx hb dX8_goThrough_124 (by decide) ?_
          exact ih (k - 1) (0) μ4_ H locs ls (by (first | ((try clear q3_4); (try clear q2_4); (try clear q1_4); (try clear μ4_); (try clear i_4); (try clear ex9); (try clear x7); (try clear G1); (try clear G2); (try clear q3_3); (try clear q2_3); (try clear q1_3); (try clear i_3); (try clear x6); (try clear x); (try clear eμ2); (try clear hrn); (try clear hμn); (try clear μn); (try clear hz9); (try clear x8); (try clear eμ1); (try clear hre); (try clear hμe); (try clear μe); (try clear mb); (try clear x5); (try clear hqf); (try clear hqb); (try clear hrm); (try clear hm9); (try clear hA); (try clear hf); (try clear hexit127); (try clear h_w); (try clear h_n); (try clear hE); (try clear hkc); (try clear hRs); (try clear hRc); (try clear hRl); (try clear hRf); omega) | omega)) (by exact q2_4) (by exact q3_4) (by (first | ((try clear q3_4); (try clear q2_4); (try clear q1_4); (try clear μ4_); (try clear i_4); (try clear ex9); (try clear x7); (try clear G1); (try clear G2); (try clear q3_3); (try clear q2_3); (try clear q1_3); (try clear i_3); (try clear x6); (try clear x); (try clear eμ2); (try clear hμn); (try clear hz9); (try clear x8); (try clear eμ1); (try clear hμe); (try clear x5); (try clear hA); (try clear hf); (try clear hexit127); (try clear hE); (try clear hkc); (try clear hRs); (try clear hRc); (try clear hRl); (try clear hRf); omega) | omega)) hP hS (lv_sub hl [0, 2, 3, 4, 5, 6, 7] rfl)
set_option maxHeartbeats 4000000 in
set_option maxRecDepth 100000 in
theorem s_WgoThrough (l : Launch) (dC : Nat → ClassId) (dI : Nat → Nat → Nat) (cI cZ cII cIII : ClassId) (h0 sz : Nat) (μ : va_M) (q : Nat) (rm : Nat) (kc : Nat) (nc : Nat) (n : Int) (hw : Int) (hq : rowB q rm) (hG : rG μ q rm) (hA : aB μ) (hkc : 110 ≤ kc ∧ kc < 233 ∧ 60 ≤ nc ∧ nc ≤ 1101) (hE : ∀ f, sE cI cZ cII cIII h0 kc f = .inl (cI, nc, .inl f)) (hcr : ∀ j, inR (μ kc j)) (h_n : 0 ≤ n ∧ n ≤ 60) (h_w : 0 ≤ hw ∧ hw ≤ 2) : Met l yX8_goThrough (Cond.code yX8_goThrough cX8_goThrough 9 (some .int) :: wsG) ({ frames := 4, cells := 0, slots := 0, locals := 85 } : Room) (va_Pc [.ref (h0 + 45), .ref (h0 + q), .ref (h0 + kc), .int (iZ (n)), .int (iZ (hw))] (fun U => U.heap.size = sz ∧ va_P (dC, dI) vwCl (fw (sE cI cZ cII cIII h0) h0 233 μ) U.heap ∧ va_K (dC, dI) vwCl (sT cI cZ cII cIII) U ∧ xM U)) (va_Qi (fun (r9 : Int32) (u : va_M × Int) => r9 = iZ u.2 ∧ (fun (u : va_M) (r : Int) => fr (fun x _ => x = 46 ∨ x = 47) μ u ∧ aB u ∧ 0 ≤ r ∧ r ≤ 1000000000) u.1 u.2) (fun u t => va_P (dC, dI) vwCl (fw (sE cI cZ cII cIII h0) h0 233 u.1) t.heap ∧ va_K (dC, dI) vwCl (sT cI cZ cII cIII) t) (fA h0 233 sz)) 0 0 (fA h0 233 sz) := by
  refine Met.ofW (cc := cX8_goThrough) (maxL := 9) (ret := (some .int)) (by decide) rfl ?_
  intro p e s m args below meth c s₁ B hml hv
  obtain ⟨rfl, hsz, hP, hK, hM⟩ := hv
  have hx := B.exec
  have hb := B.bytes
  have hr := B.returns
  have hts : ∀ w ∈ wsG, w.before _ s = true := hG_of (atoms_spec (ws := (Cond.code yX8_goThrough cX8_goThrough 9 (some .int) :: wsG)) B.pre)
  have hown : s.vm.findClass RX8 = some m.cls := findClass_of_methodNamed B.named
  have hlocks := B.notSynchronized
  subst hsz
  have hS : va_S (fA h0 233 s.heap.size) s.heap s.heap [] := va_S.rf
  have hl := lv_entry ([.ref (h0 + 45), .ref (h0 + q), .ref (h0 + kc), .int (iZ (n)), .int (iZ (hw))]) (n := 9) (Nat.le_of_ble_eq_true rfl)
  rw [lg_entry_eq]
  generalize (lg_sl ([.ref (h0 + 45), .ref (h0 + q), .ref (h0 + kc), .int (iZ (n)), .int (iZ (hw))]) ++ List.replicate (9 - (lg_sl ([.ref (h0 + 45), .ref (h0 + q), .ref (h0 + kc), .int (iZ (n)), .int (iZ (hw))])).length) Slot.unset).toArray = ls at hl ⊢
  have hl : lv_has ls 9 [(0, .ref (h0 + 45)), (1, .ref (h0 + q)), (2, .ref (h0 + kc)), (3, .int (iZ (n))), (4, .int (iZ (hw)))] := hl
  have hqb := rowB_b hq
  refine lv_aload_n hx hb dX8_goThrough_0 rfl (lv_at hl 1 rfl) ?_
  refine fz_get (D := (dC, dI)) (ci := 4) (v := .int (iZ (μ q 5))) (C := RX4) (T := TX4) (N := 8) hx hb hts inG4 hown hK hP (k := q) (by (first | ((try clear hsz); (try clear s₁); (try clear h_w); (try clear h_n); (try clear hE); (try clear hkc); omega) | omega)) (F := (sRF h0 q)) (sE_rowO hq) rfl 5 (by decide) (hts _ k93) (fun _ h9 => h9) rfl dX8_goThrough_1 ?_
  refine lv_iconst (v := iZ 1) hx hb dX8_goThrough_4 rfl ?_
  refine lv_iadd hx hb dX8_goThrough_5 ?_
  refine lv_topi (fun x9 ex9 => ?_)
  obtain rfl : x9 = iZ ((μ q 5) + 1) := ex9.trans (iZ_add _ _)
  refine lv_istore (lv' := [(5, .int (iZ ((μ q 5) + 1))), (0, .ref (h0 + 45)), (1, .ref (h0 + q)), (2, .ref (h0 + kc)), (3, .int (iZ (n))), (4, .int (iZ (hw)))]) hx hb dX8_goThrough_6 hl (by decide) rfl (fun ls hl => ?_)
  refine lv_iload_n hx hb dX8_goThrough_8 rfl (lv_at hl 4 rfl) ?_
  refine lv_istore (lv' := [(6, .int (iZ (n))), (5, .int (iZ ((μ q 5) + 1))), (0, .ref (h0 + 45)), (1, .ref (h0 + q)), (2, .ref (h0 + kc)), (3, .int (iZ (n))), (4, .int (iZ (hw)))]) hx hb dX8_goThrough_9 hl (by decide) rfl (fun ls hl => ?_)
  refine LX8_goThrough_11 hx hb hml hown hts hK hM (Nat.le_of_ble_eq_true rfl) (Nat.le_of_ble_eq_true rfl) (Nat.le_of_ble_eq_true rfl) (Nat.le_of_ble_eq_true rfl) (μ) (q) (rm) (kc) (nc) (n) (hw) (by assumption) (by exact hG) (by assumption) (by assumption) (by exact hcr) (by assumption) (by assumption) ?_ _ (n) (0) μ s.heap [] ls (by (first | ((try clear ex9); (try clear hqb); (try clear hsz); (try clear s₁); (try clear h_w); (try clear hE); (try clear hkc); omega) | omega)) (by exact fr_rfl) (by exact hA) (Nat.lt_succ_self _) hP hS (lv_sub hl [0, 1, 6, 5, 4, 3, 2] rfl)
  · intro k_5 i_5 μ5_ H locs ls q1_5 q2_5 hP hS hl
    have hl : lv_has ls 9 [(0, .ref (h0 + 45))] := hl
    have A1 := q2_5 0
    have F1 := q1_5
    have A2 := q2_5
    refine lv_aload_n hx hb dX8_goThrough_127 rfl (lv_at hl 0 rfl) ?_
    refine fz_get (D := (dC, dI)) (ci := 8) (v := .ref (h0 + 46)) (C := RX8) (T := TX8) (N := 2) hx hb hts inG8 hown hK hP (k := 45) (by decide) (F := (sF45 h0)) sE_45 rfl 0 (by decide) (hts _ k211) (fun _ h9 => h9) rfl dX8_goThrough_128 ?_
    refine lv_iconst (v := iZ 0) hx hb dX8_goThrough_131 rfl ?_
    refine fz_ld (k := 46) (n := 67161) hx hb hK hP 0 (by decide) sE_46 rfl ⟨by (first | ((try clear A2); (try clear F1); (try clear A1); (try clear q2_5); (try clear q1_5); (try clear i_5); (try clear k_5); (try clear ex9); (try clear hqb); (try clear hsz); (try clear s₁); (try clear h_w); (try clear h_n); (try clear hE); (try clear hkc); omega) | omega), by (first | ((try clear A2); (try clear F1); (try clear A1); (try clear q2_5); (try clear q1_5); (try clear i_5); (try clear k_5); (try clear ex9); (try clear hqb); (try clear hsz); (try clear s₁); (try clear h_w); (try clear h_n); (try clear hE); (try clear hkc); omega) | omega)⟩ (by decide) dX8_goThrough_132 ?_
    rw [show (0 : Int).toNat = 0 from rfl]
    exact W.iret (v := iZ (μ5_ 46 0)) hx hb hr (fun t9 ht9 hW9 => ⟨⟨iZ (μ5_ 46 0), (μ5_, μ5_ 46 0), rfl, ⟨rfl, (by
                dsimp only
                exact ⟨F1, A2, A1.1.1, A1.1.2⟩)⟩, by rw [ht9]; exact hP, va_K.moved hW9.alike hK⟩, hS.F ht9⟩) hS.2.2 dX8_goThrough_133
set_option maxHeartbeats 4000000 in
set_option maxRecDepth 100000 in
theorem s_WchooseAt (l : Launch) (dC : Nat → ClassId) (dI : Nat → Nat → Nat) (cI cZ cII cIII : ClassId) (h0 sz : Nat) (μ : va_M) (q : Nat) (rm : Nat) (b : Nat) (ii : Nat) (i : Int) (bs : Int) (hq : rowB q rm) (hb9 : b = 113 + ii * 15) (hi9 : ii < 8) (hq18 : q + 6 ≤ 18) (hG : rG μ q rm) (hA : aB μ) (h_i : 0 ≤ i ∧ i < μ q 5) (h_b : 0 ≤ bs ∧ bs ≤ 66060) : Met l yX8_chooseAt (Cond.code yX8_chooseAt cX8_chooseAt 6 (some .int) :: wsG) ({ frames := 1, cells := 0, slots := 0, locals := 14 } : Room) (va_Pc [.ref (h0 + 45), .ref (h0 + q), .int (iZ (i)), .int (iZ (bs)), .ref (h0 + (b + 10))] (fun U => U.heap.size = sz ∧ va_P (dC, dI) vwCl (fw (sE cI cZ cII cIII h0) h0 233 μ) U.heap ∧ va_K (dC, dI) vwCl (sT cI cZ cII cIII) U ∧ xM U)) (va_Qi (fun (r9 : Int32) (u : va_M × Int) => r9 = iZ u.2 ∧ (fun (u : va_M) (r : Int) => (0 ≤ r ∧ r ≤ μ q 5) ∧ fr (fun x _ => x = b + 12 ∨ x = b + 13) μ u) u.1 u.2) (fun u t => va_P (dC, dI) vwCl (fw (sE cI cZ cII cIII h0) h0 233 u.1) t.heap ∧ va_K (dC, dI) vwCl (sT cI cZ cII cIII) t) (fA h0 233 sz)) 0 0 (fA h0 233 sz) := by
  refine Met.ofW (cc := cX8_chooseAt) (maxL := 6) (ret := (some .int)) (by decide) rfl ?_
  intro p e s m args below meth c s₁ B hml hv
  obtain ⟨rfl, hsz, hP, hK, hM⟩ := hv
  have hx := B.exec
  have hb := B.bytes
  have hr := B.returns
  have hts : ∀ w ∈ wsG, w.before _ s = true := hG_of (atoms_spec (ws := (Cond.code yX8_chooseAt cX8_chooseAt 6 (some .int) :: wsG)) B.pre)
  have hown : s.vm.findClass RX8 = some m.cls := findClass_of_methodNamed B.named
  have hlocks := B.notSynchronized
  subst hsz
  have hS : va_S (fA h0 233 s.heap.size) s.heap s.heap [] := va_S.rf
  have hl := lv_entry ([.ref (h0 + 45), .ref (h0 + q), .int (iZ (i)), .int (iZ (bs)), .ref (h0 + (b + 10))]) (n := 6) (Nat.le_of_ble_eq_true rfl)
  rw [lg_entry_eq]
  generalize (lg_sl ([.ref (h0 + 45), .ref (h0 + q), .int (iZ (i)), .int (iZ (bs)), .ref (h0 + (b + 10))]) ++ List.replicate (6 - (lg_sl ([.ref (h0 + 45), .ref (h0 + q), .int (iZ (i)), .int (iZ (bs)), .ref (h0 + (b + 10))])).length) Slot.unset).toArray = ls at hl ⊢
  have hl : lv_has ls 6 [(0, .ref (h0 + 45)), (1, .ref (h0 + q)), (2, .int (iZ (i))), (3, .int (iZ (bs))), (4, .ref (h0 + (b + 10)))] := hl
  have hqb := rowB_b hq
  have hrm := rG_rm hq hG
  have hs1 := hG.1 i.toNat
  have hmi := rG_m hG i h_i.1 h_i.2
  have hni := rG_n hG i h_i.1 h_i.2
  have hs2 := hG.1 (μ (q + 2) i.toNat).toNat
  have hnm := rG_n hG (μ (q + 2) i.toNat) hmi.1 hmi.2
  have ha1 := hA (bs + i + 1).toNat
  have ha2 := hA (bs + μ (q + 2) i.toNat + 1).toNat
  refine lv_aload_n hx hb dX8_chooseAt_0 rfl (lv_at hl 1 rfl) ?_
  refine fz_get (D := (dC, dI)) (ci := 4) (v := .ref (h0 + (q + 2))) (C := RX4) (T := TX4) (N := 8) hx hb hts inG4 hown hK hP (k := q) (by (first | ((try clear ha2); (try clear ha1); (try clear hnm); (try clear hs2); (try clear hni); (try clear hmi); (try clear hs1); (try clear hrm); (try clear hsz); (try clear s₁); (try clear h_b); (try clear h_i); (try clear hi9); (try clear hb9); omega) | omega)) (F := (sRF h0 q)) (sE_rowO hq) rfl 1 (by decide) (hts _ k86) (fun _ h9 => h9) rfl dX8_chooseAt_1 ?_
  refine lv_iload_n hx hb dX8_chooseAt_4 rfl (lv_at hl 2 rfl) ?_
  refine fz_ld (k := (q + 2)) (n := rm) hx hb hK hP 0 (by (first | ((try clear ha2); (try clear ha1); (try clear hnm); (try clear hs2); (try clear hni); (try clear hmi); (try clear hs1); (try clear hrm); (try clear hsz); (try clear s₁); (try clear h_b); (try clear h_i); (try clear hi9); (try clear hb9); omega) | omega)) (sE_rowA (r := 2) hq (by decide)) rfl ⟨by (first | ((try clear ha2); (try clear ha1); (try clear hnm); (try clear hs2); (try clear hni); (try clear hmi); (try clear hs1); (try clear hrm); (try clear hqb); (try clear hsz); (try clear s₁); (try clear h_b); (try clear hq18); (try clear hi9); (try clear hb9); omega) | omega), by (first | ((try clear ha2); (try clear ha1); (try clear hnm); (try clear hs2); (try clear hni); (try clear hmi); (try clear hs1); (try clear hqb); (try clear hsz); (try clear s₁); (try clear h_b); (try clear hq18); (try clear hi9); (try clear hb9); omega) | omega)⟩ (by (first | ((try clear ha2); (try clear ha1); (try clear hnm); (try clear hs2); (try clear hni); (try clear hmi); (try clear hs1); (try clear hqb); (try clear hsz); (try clear s₁); (try clear h_b); (try clear h_i); (try clear hq18); (try clear hi9); (try clear hb9); omega) | omega)) dX8_chooseAt_5 ?_
  refine lv_istore (lv' := [(5, .int (iZ (μ (q + 2) (i).toNat))), (0, .ref (h0 + 45)), (1, .ref (h0 + q)), (2, .int (iZ (i))), (3, .int (iZ (bs))), (4, .ref (h0 + (b + 10)))]) hx hb dX8_chooseAt_6 hl (by decide) rfl (fun ls hl => ?_)
  refine lv_aload_n hx hb dX8_chooseAt_8 rfl (lv_at hl 2 rfl) ?_
  refine fz_get (D := (dC, dI)) (ci := 4) (v := .ref (h0 + (q + 1))) (C := RX4) (T := TX4) (N := 8) hx hb hts inG4 hown hK hP (k := q) (by (first | ((try clear ha2); (try clear ha1); (try clear hnm); (try clear hs2); (try clear hni); (try clear hmi); (try clear hs1); (try clear hrm); (try clear hsz); (try clear s₁); (try clear h_b); (try clear h_i); (try clear hi9); (try clear hb9); omega) | omega)) (F := (sRF h0 q)) (sE_rowO hq) rfl 0 (by decide) (hts _ k81) (fun _ h9 => h9) rfl dX8_chooseAt_9 ?_
  refine lv_iload_n hx hb dX8_chooseAt_12 rfl (lv_at hl 3 rfl) ?_
  refine fz_ld (k := (q + 1)) (n := rm) hx hb hK hP 0 (by (first | ((try clear ha2); (try clear ha1); (try clear hnm); (try clear hs2); (try clear hni); (try clear hmi); (try clear hs1); (try clear hrm); (try clear hsz); (try clear s₁); (try clear h_b); (try clear h_i); (try clear hi9); (try clear hb9); omega) | omega)) (sE_rowA (r := 1) hq (by decide)) rfl ⟨by (first | ((try clear ha2); (try clear ha1); (try clear hnm); (try clear hs2); (try clear hni); (try clear hmi); (try clear hs1); (try clear hrm); (try clear hqb); (try clear hsz); (try clear s₁); (try clear h_b); (try clear hq18); (try clear hi9); (try clear hb9); omega) | omega), by (first | ((try clear ha2); (try clear ha1); (try clear hnm); (try clear hs2); (try clear hni); (try clear hmi); (try clear hs1); (try clear hqb); (try clear hsz); (try clear s₁); (try clear h_b); (try clear hq18); (try clear hi9); (try clear hb9); omega) | omega)⟩ (by (first | ((try clear ha2); (try clear ha1); (try clear hnm); (try clear hs2); (try clear hni); (try clear hmi); (try clear hs1); (try clear hqb); (try clear hsz); (try clear s₁); (try clear h_b); (try clear h_i); (try clear hq18); (try clear hi9); (try clear hb9); omega) | omega)) dX8_chooseAt_13 ?_
  refine lv_sipush (v := iZ 513) hx hb dX8_chooseAt_14 rfl ?_
  refine fz_icmp_ne (tgt := 57) (by constructor <;> (first | ((try clear ha2); (try clear ha1); (try clear hnm); (try clear hs2); (try clear hni); (try clear hmi); (try clear hrm); (try clear hqb); (try clear hsz); (try clear s₁); (try clear h_b); (try clear h_i); (try clear hq18); (try clear hi9); (try clear hb9); omega) | omega)) (by decide) hx hb dX8_chooseAt_17 (by decide) (fun c17_ => ?_) (fun c17_ => ?_)
  · refine lv_aload_n hx hb dX8_chooseAt_57 rfl (lv_at hl 2 rfl) ?_
    refine fz_get (D := (dC, dI)) (ci := 4) (v := .ref (h0 + (q + 1))) (C := RX4) (T := TX4) (N := 8) hx hb hts inG4 hown hK hP (k := q) (by (first | ((try clear c17_); (try clear ha2); (try clear ha1); (try clear hnm); (try clear hs2); (try clear hni); (try clear hmi); (try clear hs1); (try clear hrm); (try clear hsz); (try clear s₁); (try clear h_b); (try clear h_i); (try clear hi9); (try clear hb9); omega) | omega)) (F := (sRF h0 q)) (sE_rowO hq) rfl 0 (by decide) (hts _ k81) (fun _ h9 => h9) rfl dX8_chooseAt_58 ?_
    refine lv_iload_n hx hb dX8_chooseAt_61 rfl (lv_at hl 3 rfl) ?_
    refine fz_ld (k := (q + 1)) (n := rm) hx hb hK hP 0 (by (first | ((try clear c17_); (try clear ha2); (try clear ha1); (try clear hnm); (try clear hs2); (try clear hni); (try clear hmi); (try clear hs1); (try clear hrm); (try clear hsz); (try clear s₁); (try clear h_b); (try clear h_i); (try clear hi9); (try clear hb9); omega) | omega)) (sE_rowA (r := 1) hq (by decide)) rfl ⟨by (first | ((try clear c17_); (try clear ha2); (try clear ha1); (try clear hnm); (try clear hs2); (try clear hni); (try clear hmi); (try clear hs1); (try clear hrm); (try clear hqb); (try clear hsz); (try clear s₁); (try clear h_b); (try clear hq18); (try clear hi9); (try clear hb9); omega) | omega), by (first | ((try clear c17_); (try clear ha2); (try clear ha1); (try clear hnm); (try clear hs2); (try clear hni); (try clear hmi); (try clear hs1); (try clear hqb); (try clear hsz); (try clear s₁); (try clear h_b); (try clear hq18); (try clear hi9); (try clear hb9); omega) | omega)⟩ (by (first | ((try clear ha2); (try clear ha1); (try clear hnm); (try clear hs2); (try clear hni); (try clear hmi); (try clear hs1); (try clear hqb); (try clear hsz); (try clear s₁); (try clear h_b); (try clear h_i); (try clear hq18); (try clear hi9); (try clear hb9); omega) | omega)) dX8_chooseAt_62 ?_
    refine lv_sipush (v := iZ 514) hx hb dX8_chooseAt_63 rfl ?_
    refine fz_icmp_ne (tgt := 104) (by constructor <;> (first | ((try clear c17_); (try clear ha2); (try clear ha1); (try clear hnm); (try clear hs2); (try clear hni); (try clear hmi); (try clear hrm); (try clear hqb); (try clear hsz); (try clear s₁); (try clear h_b); (try clear h_i); (try clear hq18); (try clear hi9); (try clear hb9); omega) | omega)) (by decide) hx hb dX8_chooseAt_66 (by decide) (fun c66_ => ?_) (fun c66_ => ?_)
    · refine lv_aload_n hx hb dX8_chooseAt_104 rfl (lv_at hl 2 rfl) ?_
      refine fz_get (D := (dC, dI)) (ci := 4) (v := .ref (h0 + (q + 1))) (C := RX4) (T := TX4) (N := 8) hx hb hts inG4 hown hK hP (k := q) (by (first | ((try clear c66_); (try clear c17_); (try clear ha2); (try clear ha1); (try clear hnm); (try clear hs2); (try clear hni); (try clear hmi); (try clear hs1); (try clear hrm); (try clear hsz); (try clear s₁); (try clear h_b); (try clear h_i); (try clear hi9); (try clear hb9); omega) | omega)) (F := (sRF h0 q)) (sE_rowO hq) rfl 0 (by decide) (hts _ k81) (fun _ h9 => h9) rfl dX8_chooseAt_105 ?_
      refine lv_iload hx hb dX8_chooseAt_108 (lv_at hl 0 rfl) ?_
      refine fz_ld (k := (q + 1)) (n := rm) hx hb hK hP 0 (by (first | ((try clear c66_); (try clear c17_); (try clear ha2); (try clear ha1); (try clear hnm); (try clear hs2); (try clear hni); (try clear hmi); (try clear hs1); (try clear hrm); (try clear hsz); (try clear s₁); (try clear h_b); (try clear h_i); (try clear hi9); (try clear hb9); omega) | omega)) (sE_rowA (r := 1) hq (by decide)) rfl ⟨by (first | ((try clear c66_); (try clear c17_); (try clear ha2); (try clear ha1); (try clear hnm); (try clear hs2); (try clear hni); (try clear hs1); (try clear hrm); (try clear hqb); (try clear hsz); (try clear s₁); (try clear h_b); (try clear h_i); (try clear hq18); (try clear hi9); (try clear hb9); omega) | omega), by (first | ((try clear c66_); (try clear c17_); (try clear ha2); (try clear ha1); (try clear hnm); (try clear hs2); (try clear hni); (try clear hs1); (try clear hqb); (try clear hsz); (try clear s₁); (try clear h_b); (try clear h_i); (try clear hq18); (try clear hi9); (try clear hb9); omega) | omega)⟩ (by (first | ((try clear ha2); (try clear ha1); (try clear hnm); (try clear hs2); (try clear hni); (try clear hmi); (try clear hqb); (try clear hsz); (try clear s₁); (try clear h_b); (try clear h_i); (try clear hq18); (try clear hi9); (try clear hb9); omega) | omega)) dX8_chooseAt_110 ?_
      refine lv_sipush (v := iZ 514) hx hb dX8_chooseAt_111 rfl ?_
      refine fz_icmp_ne (tgt := 153) (by constructor <;> (first | ((try clear c66_); (try clear c17_); (try clear ha2); (try clear ha1); (try clear hnm); (try clear hni); (try clear hmi); (try clear hs1); (try clear hrm); (try clear hqb); (try clear hsz); (try clear s₁); (try clear h_b); (try clear h_i); (try clear hq18); (try clear hi9); (try clear hb9); omega) | omega)) (by decide) hx hb dX8_chooseAt_114 (by decide) (fun c114_ => ?_) (fun c114_ => ?_)
      · refine lv_iload_n hx hb dX8_chooseAt_153 rfl (lv_at hl 3 rfl) ?_
        refine lv_iconst (v := iZ 1) hx hb dX8_chooseAt_154 rfl ?_
        refine lv_iadd hx hb dX8_chooseAt_155 ?_
        refine lv_topi (fun x9 ex9 => ?_)
        obtain rfl : x9 = iZ (i + 1) := ex9.trans (iZ_add _ _)
        exact W.iret (v := iZ (i + 1)) hx hb hr (fun t9 ht9 hW9 => ⟨⟨iZ (i + 1), (μ, i + 1), rfl, ⟨rfl, (by
                        dsimp only
                        refine ⟨by (first | ((try clear ex9); (try clear c114_); (try clear c66_); (try clear c17_); (try clear ha2); (try clear ha1); (try clear hnm); (try clear hs2); (try clear hni); (try clear hmi); (try clear hs1); (try clear hrm); (try clear hqb); (try clear hsz); (try clear s₁); (try clear h_b); (try clear hq18); (try clear hi9); (try clear hb9); omega) | omega), ?_⟩
                        exact fr_rfl)⟩, by rw [ht9]; exact hP, va_K.moved hW9.alike hK⟩, hS.F ht9⟩) hS.2.2 dX8_chooseAt_156
      · refine lv_aload_n hx hb dX8_chooseAt_117 rfl (lv_at hl 1 rfl) ?_
        refine fz_get (D := (dC, dI)) (ci := 8) (v := .ref (h0 + 46)) (C := RX8) (T := TX8) (N := 2) hx hb hts inG8 hown hK hP (k := 45) (by decide) (F := (sF45 h0)) sE_45 rfl 0 (by decide) (hts _ k211) (fun _ h9 => h9) rfl dX8_chooseAt_118 ?_
        refine lv_iload_n hx hb dX8_chooseAt_121 rfl (lv_at hl 4 rfl) ?_
        refine lv_iload hx hb dX8_chooseAt_122 (lv_at hl 0 rfl) ?_
        refine lv_iadd hx hb dX8_chooseAt_124 ?_
        refine lv_topi (fun x9 ex9 => ?_)
        obtain rfl : x9 = iZ (bs + (μ (q + 2) (i).toNat)) := ex9.trans (iZ_add _ _)
        refine lv_iconst (v := iZ 1) hx hb dX8_chooseAt_125 rfl ?_
        refine lv_iadd hx hb dX8_chooseAt_126 ?_
        refine lv_topi (fun x9 ex9 => ?_)
        obtain rfl : x9 = iZ ((bs + (μ (q + 2) (i).toNat)) + 1) := ex9.trans (iZ_add _ _)
        refine fz_ld (k := 46) (n := 67161) hx hb hK hP 0 (by decide) sE_46 rfl ⟨by (first | ((try clear ex9); (try clear c114_); (try clear c66_); (try clear c17_); (try clear ha2); (try clear ha1); (try clear hnm); (try clear hs2); (try clear hni); (try clear hs1); (try clear hrm); (try clear hqb); (try clear hsz); (try clear s₁); (try clear h_i); (try clear hq18); (try clear hi9); (try clear hb9); omega) | omega), by (first | ((try clear ex9); (try clear c114_); (try clear ha2); (try clear ha1); (try clear hnm); (try clear hs2); (try clear hni); (try clear hqb); (try clear hsz); (try clear s₁); (try clear h_i); (try clear hq18); (try clear hi9); (try clear hb9); omega) | omega)⟩ (by decide) dX8_chooseAt_127 ?_
        refine fz_if_le (tgt := 153) (by constructor <;> (first | ((try clear ex9); (try clear c114_); (try clear c66_); (try clear c17_); (try clear ha1); (try clear hnm); (try clear hs2); (try clear hni); (try clear hmi); (try clear hs1); (try clear hrm); (try clear hqb); (try clear hsz); (try clear s₁); (try clear h_b); (try clear h_i); (try clear hq18); (try clear hi9); (try clear hb9); omega) | omega)) hx hb dX8_chooseAt_128 (by decide) (fun c128_ => ?_) (fun c128_ => ?_)
        · refine lv_iload_n hx hb dX8_chooseAt_153 rfl (lv_at hl 3 rfl) ?_
          refine lv_iconst (v := iZ 1) hx hb dX8_chooseAt_154 rfl ?_
          refine lv_iadd hx hb dX8_chooseAt_155 ?_
          refine lv_topi (fun x9 ex9 => ?_)
          obtain rfl : x9 = iZ (i + 1) := ex9.trans (iZ_add _ _)
          exact W.iret (v := iZ (i + 1)) hx hb hr (fun t9 ht9 hW9 => ⟨⟨iZ (i + 1), (μ, i + 1), rfl, ⟨rfl, (by
                            dsimp only
                            refine ⟨by (first | ((try clear ex9); (try clear c128_); (try clear c114_); (try clear c66_); (try clear c17_); (try clear ha2); (try clear ha1); (try clear hnm); (try clear hs2); (try clear hni); (try clear hmi); (try clear hs1); (try clear hrm); (try clear hqb); (try clear hsz); (try clear s₁); (try clear h_b); (try clear hq18); (try clear hi9); (try clear hb9); omega) | omega), ?_⟩
                            exact fr_rfl)⟩, by rw [ht9]; exact hP, va_K.moved hW9.alike hK⟩, hS.F ht9⟩) hS.2.2 dX8_chooseAt_156
        · refine lv_aload hx hb dX8_chooseAt_131 (lv_at hl 5 rfl) ?_
          refine fz_get (D := (dC, dI)) (ci := 7) (v := .ref (h0 + (b + 13))) (C := RX7) (T := TX7) (N := 5) hx hb hts inG7 hown hK hP (k := (b + 10)) (by (first | ((try clear c128_); (try clear ex9); (try clear c114_); (try clear c66_); (try clear c17_); (try clear ha2); (try clear ha1); (try clear hnm); (try clear hs2); (try clear hni); (try clear hmi); (try clear hs1); (try clear hrm); (try clear hqb); (try clear hsz); (try clear s₁); (try clear h_b); (try clear h_i); (try clear hq18); omega) | omega)) (F := (sWF h0 b)) (sE_walk hi9 hb9) rfl 4 (by decide) (hts _ k283) (fun _ h9 => h9) rfl dX8_chooseAt_133 ?_
          refine lv_aload_n hx hb dX8_chooseAt_136 rfl (lv_at hl 2 rfl) ?_
          refine fz_get (D := (dC, dI)) (ci := 4) (v := .ref (h0 + (q + 4))) (C := RX4) (T := TX4) (N := 8) hx hb hts inG4 hown hK hP (k := q) (by (first | ((try clear c128_); (try clear ex9); (try clear c114_); (try clear c66_); (try clear c17_); (try clear ha2); (try clear ha1); (try clear hnm); (try clear hs2); (try clear hni); (try clear hmi); (try clear hs1); (try clear hrm); (try clear hsz); (try clear s₁); (try clear h_b); (try clear h_i); (try clear hi9); (try clear hb9); omega) | omega)) (F := (sRF h0 q)) (sE_rowO hq) rfl 3 (by decide) (hts _ k89) (fun _ h9 => h9) rfl dX8_chooseAt_137 ?_
          refine lv_iload hx hb dX8_chooseAt_140 (lv_at hl 0 rfl) ?_
          refine fz_ld (k := (q + 4)) (n := rm) hx hb hK hP 0 (by (first | ((try clear c128_); (try clear ex9); (try clear c114_); (try clear c66_); (try clear c17_); (try clear ha2); (try clear ha1); (try clear hnm); (try clear hs2); (try clear hni); (try clear hmi); (try clear hs1); (try clear hrm); (try clear hsz); (try clear s₁); (try clear h_b); (try clear h_i); (try clear hi9); (try clear hb9); omega) | omega)) (sE_rowA (r := 4) hq (by decide)) rfl ⟨by (first | ((try clear c128_); (try clear ex9); (try clear c114_); (try clear c66_); (try clear c17_); (try clear ha2); (try clear ha1); (try clear hnm); (try clear hs2); (try clear hni); (try clear hs1); (try clear hrm); (try clear hqb); (try clear hsz); (try clear s₁); (try clear h_b); (try clear h_i); (try clear hq18); (try clear hi9); (try clear hb9); omega) | omega), by (first | ((try clear c128_); (try clear ex9); (try clear c114_); (try clear c66_); (try clear c17_); (try clear ha2); (try clear ha1); (try clear hnm); (try clear hs2); (try clear hni); (try clear hs1); (try clear hqb); (try clear hsz); (try clear s₁); (try clear h_b); (try clear h_i); (try clear hq18); (try clear hi9); (try clear hb9); omega) | omega)⟩ (by (first | ((try clear c128_); (try clear ex9); (try clear c114_); (try clear ha2); (try clear ha1); (try clear hnm); (try clear hs2); (try clear hni); (try clear hmi); (try clear hqb); (try clear hsz); (try clear s₁); (try clear h_b); (try clear h_i); (try clear hq18); (try clear hi9); (try clear hb9); omega) | omega)) dX8_chooseAt_142 ?_
          refine lv_dup2_11 hx hb dX8_chooseAt_143 rfl rfl ?_
          refine fz_ld (k := (b + 13)) (n := 1100) hx hb hK hP 0 (by (first | ((try clear c128_); (try clear ex9); (try clear c114_); (try clear c66_); (try clear c17_); (try clear ha2); (try clear ha1); (try clear hnm); (try clear hs2); (try clear hni); (try clear hmi); (try clear hs1); (try clear hrm); (try clear hqb); (try clear hsz); (try clear s₁); (try clear h_b); (try clear h_i); (try clear hq18); omega) | omega)) (sE_leafA 13 1100 hi9 hb9 (by decide)) rfl ⟨by (first | ((try clear c128_); (try clear ex9); (try clear c114_); (try clear c66_); (try clear c17_); (try clear ha2); (try clear ha1); (try clear hs2); (try clear hni); (try clear hmi); (try clear hs1); (try clear hrm); (try clear hqb); (try clear hsz); (try clear s₁); (try clear h_b); (try clear h_i); (try clear hq18); (try clear hi9); (try clear hb9); omega) | omega), by (first | ((try clear c128_); (try clear ex9); (try clear c114_); (try clear ha2); (try clear ha1); (try clear hs2); (try clear hni); (try clear hqb); (try clear hsz); (try clear s₁); (try clear h_b); (try clear h_i); (try clear hq18); (try clear hi9); (try clear hb9); omega) | omega)⟩ (by decide) dX8_chooseAt_144 ?_
          refine lv_iconst (v := iZ 1) hx hb dX8_chooseAt_145 rfl ?_
          refine lv_iadd hx hb dX8_chooseAt_146 ?_
          refine lv_topi (fun x9 ex9 => ?_)
          obtain rfl : x9 = iZ ((μ (b + 13) (μ (q + 4) (μ (q + 2) (i).toNat).toNat).toNat) + 1) := ex9.trans (iZ_add _ _)
          refine fz_st (k := (b + 13)) (n := 1100) (i := (μ (q + 4) (μ (q + 2) (i).toNat).toNat)) (z := ((μ (b + 13) (μ (q + 4) (μ (q + 2) (i).toNat).toNat).toNat) + 1)) hx hb hK hP fA_in hS 0 (by (first | ((try clear ex9); (try clear c128_); (try clear c114_); (try clear c66_); (try clear c17_); (try clear ha2); (try clear ha1); (try clear hnm); (try clear hs2); (try clear hni); (try clear hmi); (try clear hs1); (try clear hrm); (try clear hqb); (try clear hsz); (try clear s₁); (try clear h_b); (try clear h_i); (try clear hq18); omega) | omega)) (sE_leafA 13 1100 hi9 hb9 (by decide)) rfl ⟨by (first | ((try clear ex9); (try clear c128_); (try clear c114_); (try clear c66_); (try clear c17_); (try clear ha2); (try clear ha1); (try clear hs2); (try clear hni); (try clear hmi); (try clear hs1); (try clear hrm); (try clear hqb); (try clear hsz); (try clear s₁); (try clear h_b); (try clear h_i); (try clear hq18); (try clear hi9); (try clear hb9); omega) | omega), by (first | ((try clear ex9); (try clear c128_); (try clear c114_); (try clear ha2); (try clear ha1); (try clear hs2); (try clear hni); (try clear hqb); (try clear hsz); (try clear s₁); (try clear h_b); (try clear h_i); (try clear hq18); (try clear hi9); (try clear hb9); omega) | omega)⟩ (by decide) dX8_chooseAt_147 (fun H locs hP hS => ?_)
          obtain ⟨μ1, eμ1⟩ : ∃ x : va_M, x = uz μ (b + 13) (μ (q + 4) (μ (q + 2) (i).toNat).toNat).toNat ((μ (b + 13) (μ (q + 4) (μ (q + 2) (i).toNat).toNat).toNat) + 1) := ⟨_, rfl⟩
          rw [← eμ1] at hP
          refine lv_iload hx hb dX8_chooseAt_148 (lv_at hl 0 rfl) ?_
          refine lv_iconst (v := iZ 1) hx hb dX8_chooseAt_150 rfl ?_
          refine lv_iadd hx hb dX8_chooseAt_151 ?_
          refine lv_topi (fun x9 ex9 => ?_)
          obtain rfl : x9 = iZ ((μ (q + 2) (i).toNat) + 1) := ex9.trans (iZ_add _ _)
          exact W.iret (v := iZ ((μ (q + 2) (i).toNat) + 1)) hx hb hr (fun t9 ht9 hW9 => ⟨⟨iZ ((μ (q + 2) (i).toNat) + 1), (μ1, (μ (q + 2) (i).toNat) + 1), rfl, ⟨rfl, (by
                            dsimp only
                            refine ⟨by (first | ((try clear ex9); (try clear x); (try clear eμ1); (try clear μ1); (try clear c128_); (try clear c114_); (try clear c66_); (try clear c17_); (try clear ha2); (try clear ha1); (try clear hnm); (try clear hs2); (try clear hni); (try clear hs1); (try clear hrm); (try clear hqb); (try clear hsz); (try clear s₁); (try clear h_b); (try clear h_i); (try clear hq18); (try clear hi9); (try clear hb9); omega) | omega), ?_⟩
                            rw [eμ1]
                            exact fr_uz (fr_rfl) (Or.inr rfl))⟩, by rw [ht9]; exact hP, va_K.moved hW9.alike hK⟩, hS.F ht9⟩) hS.2.2 dX8_chooseAt_152
    · refine lv_aload hx hb dX8_chooseAt_69 (lv_at hl 5 rfl) ?_
      refine fz_get (D := (dC, dI)) (ci := 7) (v := .ref (h0 + (b + 12))) (C := RX7) (T := TX7) (N := 5) hx hb hts inG7 hown hK hP (k := (b + 10)) (by (first | ((try clear c66_); (try clear c17_); (try clear ha2); (try clear ha1); (try clear hnm); (try clear hs2); (try clear hni); (try clear hmi); (try clear hs1); (try clear hrm); (try clear hqb); (try clear hsz); (try clear s₁); (try clear h_b); (try clear h_i); (try clear hq18); omega) | omega)) (F := (sWF h0 b)) (sE_walk hi9 hb9) rfl 3 (by decide) (hts _ k280) (fun _ h9 => h9) rfl dX8_chooseAt_71 ?_
      refine lv_aload_n hx hb dX8_chooseAt_74 rfl (lv_at hl 2 rfl) ?_
      refine fz_get (D := (dC, dI)) (ci := 4) (v := .ref (h0 + (q + 4))) (C := RX4) (T := TX4) (N := 8) hx hb hts inG4 hown hK hP (k := q) (by (first | ((try clear c66_); (try clear c17_); (try clear ha2); (try clear ha1); (try clear hnm); (try clear hs2); (try clear hni); (try clear hmi); (try clear hs1); (try clear hrm); (try clear hsz); (try clear s₁); (try clear h_b); (try clear h_i); (try clear hi9); (try clear hb9); omega) | omega)) (F := (sRF h0 q)) (sE_rowO hq) rfl 3 (by decide) (hts _ k89) (fun _ h9 => h9) rfl dX8_chooseAt_75 ?_
      refine lv_iload_n hx hb dX8_chooseAt_78 rfl (lv_at hl 3 rfl) ?_
      refine fz_ld (k := (q + 4)) (n := rm) hx hb hK hP 0 (by (first | ((try clear c66_); (try clear c17_); (try clear ha2); (try clear ha1); (try clear hnm); (try clear hs2); (try clear hni); (try clear hmi); (try clear hs1); (try clear hrm); (try clear hsz); (try clear s₁); (try clear h_b); (try clear h_i); (try clear hi9); (try clear hb9); omega) | omega)) (sE_rowA (r := 4) hq (by decide)) rfl ⟨by (first | ((try clear c66_); (try clear c17_); (try clear ha2); (try clear ha1); (try clear hnm); (try clear hs2); (try clear hni); (try clear hmi); (try clear hs1); (try clear hrm); (try clear hqb); (try clear hsz); (try clear s₁); (try clear h_b); (try clear hq18); (try clear hi9); (try clear hb9); omega) | omega), by (first | ((try clear c66_); (try clear c17_); (try clear ha2); (try clear ha1); (try clear hnm); (try clear hs2); (try clear hni); (try clear hmi); (try clear hs1); (try clear hqb); (try clear hsz); (try clear s₁); (try clear h_b); (try clear hq18); (try clear hi9); (try clear hb9); omega) | omega)⟩ (by (first | ((try clear ha2); (try clear ha1); (try clear hnm); (try clear hs2); (try clear hni); (try clear hmi); (try clear hs1); (try clear hqb); (try clear hsz); (try clear s₁); (try clear h_b); (try clear h_i); (try clear hq18); (try clear hi9); (try clear hb9); omega) | omega)) dX8_chooseAt_79 ?_
      refine lv_dup2_11 hx hb dX8_chooseAt_80 rfl rfl ?_
      refine fz_ld (k := (b + 12)) (n := 1100) hx hb hK hP 0 (by (first | ((try clear c66_); (try clear c17_); (try clear ha2); (try clear ha1); (try clear hnm); (try clear hs2); (try clear hni); (try clear hmi); (try clear hs1); (try clear hrm); (try clear hqb); (try clear hsz); (try clear s₁); (try clear h_b); (try clear h_i); (try clear hq18); omega) | omega)) (sE_leafA 12 1100 hi9 hb9 (by decide)) rfl ⟨by (first | ((try clear c66_); (try clear c17_); (try clear ha2); (try clear ha1); (try clear hnm); (try clear hs2); (try clear hmi); (try clear hs1); (try clear hrm); (try clear hqb); (try clear hsz); (try clear s₁); (try clear h_b); (try clear h_i); (try clear hq18); (try clear hi9); (try clear hb9); omega) | omega), by (first | ((try clear ha2); (try clear ha1); (try clear hnm); (try clear hs2); (try clear hmi); (try clear hs1); (try clear hqb); (try clear hsz); (try clear s₁); (try clear h_b); (try clear hq18); (try clear hi9); (try clear hb9); omega) | omega)⟩ (by decide) dX8_chooseAt_81 ?_
      refine lv_iconst (v := iZ 1) hx hb dX8_chooseAt_82 rfl ?_
      refine lv_iadd hx hb dX8_chooseAt_83 ?_
      refine lv_topi (fun x9 ex9 => ?_)
      obtain rfl : x9 = iZ ((μ (b + 12) (μ (q + 4) (i).toNat).toNat) + 1) := ex9.trans (iZ_add _ _)
      refine fz_st (k := (b + 12)) (n := 1100) (i := (μ (q + 4) (i).toNat)) (z := ((μ (b + 12) (μ (q + 4) (i).toNat).toNat) + 1)) hx hb hK hP fA_in hS 0 (by (first | ((try clear ex9); (try clear c66_); (try clear c17_); (try clear ha2); (try clear ha1); (try clear hnm); (try clear hs2); (try clear hni); (try clear hmi); (try clear hs1); (try clear hrm); (try clear hqb); (try clear hsz); (try clear s₁); (try clear h_b); (try clear h_i); (try clear hq18); omega) | omega)) (sE_leafA 12 1100 hi9 hb9 (by decide)) rfl ⟨by (first | ((try clear ex9); (try clear c66_); (try clear c17_); (try clear ha2); (try clear ha1); (try clear hnm); (try clear hs2); (try clear hmi); (try clear hs1); (try clear hrm); (try clear hqb); (try clear hsz); (try clear s₁); (try clear h_b); (try clear h_i); (try clear hq18); (try clear hi9); (try clear hb9); omega) | omega), by (first | ((try clear ex9); (try clear ha2); (try clear ha1); (try clear hnm); (try clear hs2); (try clear hmi); (try clear hs1); (try clear hqb); (try clear hsz); (try clear s₁); (try clear h_b); (try clear hq18); (try clear hi9); (try clear hb9); omega) | omega)⟩ (by decide) dX8_chooseAt_84 (fun H locs hP hS => ?_)
      obtain ⟨μ2, eμ2⟩ : ∃ x : va_M, x = uz μ (b + 12) (μ (q + 4) (i).toNat).toNat ((μ (b + 12) (μ (q + 4) (i).toNat).toNat) + 1) := ⟨_, rfl⟩
      rw [← eμ2] at hP
      have y4 : μ2 (q + 4) i.toNat = μ (q + 4) i.toNat := by rw [eμ2, uz_n (by (first | ((try clear y4); (try clear x); (try clear eμ2); (try clear μ2); (try clear ex9); (try clear c66_); (try clear c17_); (try clear ha2); (try clear ha1); (try clear hnm); (try clear hs2); (try clear hni); (try clear hmi); (try clear hs1); (try clear hrm); (try clear hsz); (try clear s₁); (try clear h_b); (try clear h_i); (try clear hi9); omega) | omega))]
      refine lv_aload hx hb dX8_chooseAt_85 (lv_at hl 5 rfl) ?_
      refine fz_get (D := (dC, dI)) (ci := 7) (v := .ref (h0 + (b + 13))) (C := RX7) (T := TX7) (N := 5) hx hb hts inG7 hown hK hP (k := (b + 10)) (by (first | ((try clear y4); (try clear x); (try clear eμ2); (try clear ex9); (try clear c66_); (try clear c17_); (try clear ha2); (try clear ha1); (try clear hnm); (try clear hs2); (try clear hni); (try clear hmi); (try clear hs1); (try clear hrm); (try clear hqb); (try clear hsz); (try clear s₁); (try clear h_b); (try clear h_i); (try clear hq18); omega) | omega)) (F := (sWF h0 b)) (sE_walk hi9 hb9) rfl 4 (by decide) (hts _ k283) (fun _ h9 => h9) rfl dX8_chooseAt_87 ?_
      refine lv_aload_n hx hb dX8_chooseAt_90 rfl (lv_at hl 2 rfl) ?_
      refine fz_get (D := (dC, dI)) (ci := 4) (v := .ref (h0 + (q + 4))) (C := RX4) (T := TX4) (N := 8) hx hb hts inG4 hown hK hP (k := q) (by (first | ((try clear y4); (try clear x); (try clear eμ2); (try clear ex9); (try clear c66_); (try clear c17_); (try clear ha2); (try clear ha1); (try clear hnm); (try clear hs2); (try clear hni); (try clear hmi); (try clear hs1); (try clear hrm); (try clear hsz); (try clear s₁); (try clear h_b); (try clear h_i); (try clear hi9); (try clear hb9); omega) | omega)) (F := (sRF h0 q)) (sE_rowO hq) rfl 3 (by decide) (hts _ k89) (fun _ h9 => h9) rfl dX8_chooseAt_91 ?_
      refine lv_iload_n hx hb dX8_chooseAt_94 rfl (lv_at hl 3 rfl) ?_
      refine fz_ld (k := (q + 4)) (n := rm) hx hb hK hP 0 (by (first | ((try clear y4); (try clear x); (try clear eμ2); (try clear ex9); (try clear c66_); (try clear c17_); (try clear ha2); (try clear ha1); (try clear hnm); (try clear hs2); (try clear hni); (try clear hmi); (try clear hs1); (try clear hrm); (try clear hsz); (try clear s₁); (try clear h_b); (try clear h_i); (try clear hi9); (try clear hb9); omega) | omega)) (sE_rowA (r := 4) hq (by decide)) rfl ⟨by (first | ((try clear y4); (try clear x); (try clear eμ2); (try clear ex9); (try clear c66_); (try clear c17_); (try clear ha2); (try clear ha1); (try clear hnm); (try clear hs2); (try clear hni); (try clear hmi); (try clear hs1); (try clear hrm); (try clear hqb); (try clear hsz); (try clear s₁); (try clear h_b); (try clear hq18); (try clear hi9); (try clear hb9); omega) | omega), by (first | ((try clear y4); (try clear x); (try clear eμ2); (try clear ex9); (try clear c66_); (try clear c17_); (try clear ha2); (try clear ha1); (try clear hnm); (try clear hs2); (try clear hni); (try clear hmi); (try clear hs1); (try clear hqb); (try clear hsz); (try clear s₁); (try clear h_b); (try clear hq18); (try clear hi9); (try clear hb9); omega) | omega)⟩ (by (first | ((try clear y4); (try clear x); (try clear eμ2); (try clear ex9); (try clear ha2); (try clear ha1); (try clear hnm); (try clear hs2); (try clear hni); (try clear hmi); (try clear hs1); (try clear hqb); (try clear hsz); (try clear s₁); (try clear h_b); (try clear h_i); (try clear hq18); (try clear hi9); (try clear hb9); omega) | omega)) dX8_chooseAt_95 ?_
      refine lv_dup2_11 hx hb dX8_chooseAt_96 rfl rfl ?_
      refine fz_ld (k := (b + 13)) (n := 1100) hx hb hK hP 0 (by (first | ((try clear y4); (try clear x); (try clear eμ2); (try clear ex9); (try clear c66_); (try clear c17_); (try clear ha2); (try clear ha1); (try clear hnm); (try clear hs2); (try clear hni); (try clear hmi); (try clear hs1); (try clear hrm); (try clear hqb); (try clear hsz); (try clear s₁); (try clear h_b); (try clear h_i); (try clear hq18); omega) | omega)) (sE_leafA 13 1100 hi9 hb9 (by decide)) rfl ⟨by (first | ((try clear x); (try clear eμ2); (try clear ex9); (try clear c66_); (try clear c17_); (try clear ha2); (try clear ha1); (try clear hnm); (try clear hs2); (try clear hmi); (try clear hs1); (try clear hrm); (try clear hqb); (try clear hsz); (try clear s₁); (try clear h_b); (try clear h_i); (try clear hq18); (try clear hi9); (try clear hb9); omega) | omega), by (first | ((try clear x); (try clear eμ2); (try clear ex9); (try clear ha2); (try clear ha1); (try clear hnm); (try clear hs2); (try clear hmi); (try clear hs1); (try clear hqb); (try clear hsz); (try clear s₁); (try clear h_b); (try clear hq18); (try clear hi9); (try clear hb9); omega) | omega)⟩ (by decide) dX8_chooseAt_97 ?_
      rw [show μ2 (b + 13) (μ2 (q + 4) (i).toNat).toNat = μ (b + 13) (μ2 (q + 4) (i).toNat).toNat from by rw [eμ2, uz_n (by (first | ((try clear y4); (try clear x); (try clear eμ2); (try clear ex9); (try clear c66_); (try clear c17_); (try clear ha2); (try clear ha1); (try clear hnm); (try clear hs2); (try clear hni); (try clear hmi); (try clear hs1); (try clear hrm); (try clear hqb); (try clear hsz); (try clear s₁); (try clear h_b); (try clear h_i); (try clear hq18); (try clear hi9); (try clear hb9); omega) | omega))]]
      refine lv_iconst (v := iZ 1) hx hb dX8_chooseAt_98 rfl ?_
      refine lv_iadd hx hb dX8_chooseAt_99 ?_
      refine lv_topi (fun x9 ex9 => ?_)
      obtain rfl : x9 = iZ ((μ (b + 13) (μ2 (q + 4) (i).toNat).toNat) + 1) := ex9.trans (iZ_add _ _)
      refine fz_st (k := (b + 13)) (n := 1100) (i := (μ2 (q + 4) (i).toNat)) (z := ((μ (b + 13) (μ2 (q + 4) (i).toNat).toNat) + 1)) hx hb hK hP fA_in hS 0 (by (first | ((try clear ex9); (try clear y4); (try clear x); (try clear eμ2); (try clear c66_); (try clear c17_); (try clear ha2); (try clear ha1); (try clear hnm); (try clear hs2); (try clear hni); (try clear hmi); (try clear hs1); (try clear hrm); (try clear hqb); (try clear hsz); (try clear s₁); (try clear h_b); (try clear h_i); (try clear hq18); omega) | omega)) (sE_leafA 13 1100 hi9 hb9 (by decide)) rfl ⟨by (first | ((try clear ex9); (try clear x); (try clear eμ2); (try clear c66_); (try clear c17_); (try clear ha2); (try clear ha1); (try clear hnm); (try clear hs2); (try clear hmi); (try clear hs1); (try clear hrm); (try clear hqb); (try clear hsz); (try clear s₁); (try clear h_b); (try clear h_i); (try clear hq18); (try clear hi9); (try clear hb9); omega) | omega), by (first | ((try clear ex9); (try clear x); (try clear eμ2); (try clear ha2); (try clear ha1); (try clear hnm); (try clear hs2); (try clear hmi); (try clear hs1); (try clear hqb); (try clear hsz); (try clear s₁); (try clear h_b); (try clear hq18); (try clear hi9); (try clear hb9); omega) | omega)⟩ (by decide) dX8_chooseAt_100 (fun H locs hP hS => ?_)
      obtain ⟨μ3, eμ3⟩ : ∃ x : va_M, x = uz μ2 (b + 13) (μ2 (q + 4) (i).toNat).toNat ((μ (b + 13) (μ2 (q + 4) (i).toNat).toNat) + 1) := ⟨_, rfl⟩
      rw [← eμ3] at hP
      refine lv_goto (tgt := 153) hx hb dX8_chooseAt_101 (by decide) ?_
      refine lv_iload_n hx hb dX8_chooseAt_153 rfl (lv_at hl 3 rfl) ?_
      refine lv_iconst (v := iZ 1) hx hb dX8_chooseAt_154 rfl ?_
      refine lv_iadd hx hb dX8_chooseAt_155 ?_
      refine lv_topi (fun x9 ex9 => ?_)
      obtain rfl : x9 = iZ (i + 1) := ex9.trans (iZ_add _ _)
      exact W.iret (v := iZ (i + 1)) hx hb hr (fun t9 ht9 hW9 => ⟨⟨iZ (i + 1), (μ3, i + 1), rfl, ⟨rfl, (by
                    dsimp only
                    refine ⟨by (first | ((try clear ex9); (try clear x); (try clear eμ3); (try clear μ3); (try clear y4); (try clear eμ2); (try clear c66_); (try clear c17_); (try clear ha2); (try clear ha1); (try clear hnm); (try clear hs2); (try clear hni); (try clear hmi); (try clear hs1); (try clear hrm); (try clear hqb); (try clear hsz); (try clear s₁); (try clear h_b); (try clear hq18); (try clear hi9); (try clear hb9); omega) | omega), ?_⟩
                    rw [eμ3, eμ2]
                    exact fr_uz (fr_uz (fr_rfl) (Or.inl rfl)) (Or.inr rfl))⟩, by rw [ht9]; exact hP, va_K.moved hW9.alike hK⟩, hS.F ht9⟩) hS.2.2 dX8_chooseAt_156
  · refine lv_aload_n hx hb dX8_chooseAt_20 rfl (lv_at hl 1 rfl) ?_
    refine fz_get (D := (dC, dI)) (ci := 8) (v := .ref (h0 + 46)) (C := RX8) (T := TX8) (N := 2) hx hb hts inG8 hown hK hP (k := 45) (by decide) (F := (sF45 h0)) sE_45 rfl 0 (by decide) (hts _ k211) (fun _ h9 => h9) rfl dX8_chooseAt_21 ?_
    refine lv_iload_n hx hb dX8_chooseAt_24 rfl (lv_at hl 4 rfl) ?_
    refine lv_iload_n hx hb dX8_chooseAt_25 rfl (lv_at hl 3 rfl) ?_
    refine lv_iadd hx hb dX8_chooseAt_26 ?_
    refine lv_topi (fun x9 ex9 => ?_)
    obtain rfl : x9 = iZ (bs + i) := ex9.trans (iZ_add _ _)
    refine lv_iconst (v := iZ 1) hx hb dX8_chooseAt_27 rfl ?_
    refine lv_iadd hx hb dX8_chooseAt_28 ?_
    refine lv_topi (fun x9 ex9 => ?_)
    obtain rfl : x9 = iZ ((bs + i) + 1) := ex9.trans (iZ_add _ _)
    refine fz_ld (k := 46) (n := 67161) hx hb hK hP 0 (by decide) sE_46 rfl ⟨by (first | ((try clear ex9); (try clear c17_); (try clear ha2); (try clear ha1); (try clear hnm); (try clear hs2); (try clear hni); (try clear hmi); (try clear hs1); (try clear hrm); (try clear hqb); (try clear hsz); (try clear s₁); (try clear hq18); (try clear hi9); (try clear hb9); omega) | omega), by (first | ((try clear ex9); (try clear c17_); (try clear ha2); (try clear ha1); (try clear hnm); (try clear hs2); (try clear hni); (try clear hmi); (try clear hs1); (try clear hqb); (try clear hsz); (try clear s₁); (try clear hq18); (try clear hi9); (try clear hb9); omega) | omega)⟩ (by decide) dX8_chooseAt_29 ?_
    refine fz_if_ne (tgt := 38) (by constructor <;> (first | ((try clear ex9); (try clear c17_); (try clear ha2); (try clear hnm); (try clear hs2); (try clear hni); (try clear hmi); (try clear hs1); (try clear hrm); (try clear hqb); (try clear hsz); (try clear s₁); (try clear h_b); (try clear h_i); (try clear hq18); (try clear hi9); (try clear hb9); omega) | omega)) hx hb dX8_chooseAt_30 (by decide) (fun c30_ => ?_) (fun c30_ => ?_)
    · refine lv_aload hx hb dX8_chooseAt_38 (lv_at hl 5 rfl) ?_
      refine fz_get (D := (dC, dI)) (ci := 7) (v := .ref (h0 + (b + 12))) (C := RX7) (T := TX7) (N := 5) hx hb hts inG7 hown hK hP (k := (b + 10)) (by (first | ((try clear c30_); (try clear ex9); (try clear c17_); (try clear ha2); (try clear ha1); (try clear hnm); (try clear hs2); (try clear hni); (try clear hmi); (try clear hs1); (try clear hrm); (try clear hqb); (try clear hsz); (try clear s₁); (try clear h_b); (try clear h_i); (try clear hq18); omega) | omega)) (F := (sWF h0 b)) (sE_walk hi9 hb9) rfl 3 (by decide) (hts _ k280) (fun _ h9 => h9) rfl dX8_chooseAt_40 ?_
      refine lv_aload_n hx hb dX8_chooseAt_43 rfl (lv_at hl 2 rfl) ?_
      refine fz_get (D := (dC, dI)) (ci := 4) (v := .ref (h0 + (q + 4))) (C := RX4) (T := TX4) (N := 8) hx hb hts inG4 hown hK hP (k := q) (by (first | ((try clear c30_); (try clear ex9); (try clear c17_); (try clear ha2); (try clear ha1); (try clear hnm); (try clear hs2); (try clear hni); (try clear hmi); (try clear hs1); (try clear hrm); (try clear hsz); (try clear s₁); (try clear h_b); (try clear h_i); (try clear hi9); (try clear hb9); omega) | omega)) (F := (sRF h0 q)) (sE_rowO hq) rfl 3 (by decide) (hts _ k89) (fun _ h9 => h9) rfl dX8_chooseAt_44 ?_
      refine lv_iload_n hx hb dX8_chooseAt_47 rfl (lv_at hl 3 rfl) ?_
      refine fz_ld (k := (q + 4)) (n := rm) hx hb hK hP 0 (by (first | ((try clear c30_); (try clear ex9); (try clear c17_); (try clear ha2); (try clear ha1); (try clear hnm); (try clear hs2); (try clear hni); (try clear hmi); (try clear hs1); (try clear hrm); (try clear hsz); (try clear s₁); (try clear h_b); (try clear h_i); (try clear hi9); (try clear hb9); omega) | omega)) (sE_rowA (r := 4) hq (by decide)) rfl ⟨by (first | ((try clear c30_); (try clear ex9); (try clear c17_); (try clear ha2); (try clear ha1); (try clear hnm); (try clear hs2); (try clear hni); (try clear hmi); (try clear hs1); (try clear hrm); (try clear hqb); (try clear hsz); (try clear s₁); (try clear h_b); (try clear hq18); (try clear hi9); (try clear hb9); omega) | omega), by (first | ((try clear c30_); (try clear ex9); (try clear c17_); (try clear ha2); (try clear ha1); (try clear hnm); (try clear hs2); (try clear hni); (try clear hmi); (try clear hs1); (try clear hqb); (try clear hsz); (try clear s₁); (try clear h_b); (try clear hq18); (try clear hi9); (try clear hb9); omega) | omega)⟩ (by (first | ((try clear ex9); (try clear c17_); (try clear ha2); (try clear hnm); (try clear hs2); (try clear hni); (try clear hmi); (try clear hs1); (try clear hqb); (try clear hsz); (try clear s₁); (try clear h_b); (try clear h_i); (try clear hq18); (try clear hi9); (try clear hb9); omega) | omega)) dX8_chooseAt_48 ?_
      refine lv_dup2_11 hx hb dX8_chooseAt_49 rfl rfl ?_
      refine fz_ld (k := (b + 12)) (n := 1100) hx hb hK hP 0 (by (first | ((try clear c30_); (try clear ex9); (try clear c17_); (try clear ha2); (try clear ha1); (try clear hnm); (try clear hs2); (try clear hni); (try clear hmi); (try clear hs1); (try clear hrm); (try clear hqb); (try clear hsz); (try clear s₁); (try clear h_b); (try clear h_i); (try clear hq18); omega) | omega)) (sE_leafA 12 1100 hi9 hb9 (by decide)) rfl ⟨by (first | ((try clear c30_); (try clear ex9); (try clear c17_); (try clear ha2); (try clear ha1); (try clear hnm); (try clear hs2); (try clear hmi); (try clear hs1); (try clear hrm); (try clear hqb); (try clear hsz); (try clear s₁); (try clear h_b); (try clear h_i); (try clear hq18); (try clear hi9); (try clear hb9); omega) | omega), by (first | ((try clear ex9); (try clear c17_); (try clear ha2); (try clear hnm); (try clear hs2); (try clear hmi); (try clear hs1); (try clear hqb); (try clear hsz); (try clear s₁); (try clear h_b); (try clear hq18); (try clear hi9); (try clear hb9); omega) | omega)⟩ (by decide) dX8_chooseAt_50 ?_
      refine lv_iconst (v := iZ 1) hx hb dX8_chooseAt_51 rfl ?_
      refine lv_iadd hx hb dX8_chooseAt_52 ?_
      refine lv_topi (fun x9 ex9 => ?_)
      obtain rfl : x9 = iZ ((μ (b + 12) (μ (q + 4) (i).toNat).toNat) + 1) := ex9.trans (iZ_add _ _)
      refine fz_st (k := (b + 12)) (n := 1100) (i := (μ (q + 4) (i).toNat)) (z := ((μ (b + 12) (μ (q + 4) (i).toNat).toNat) + 1)) hx hb hK hP fA_in hS 0 (by (first | ((try clear ex9); (try clear c30_); (try clear c17_); (try clear ha2); (try clear ha1); (try clear hnm); (try clear hs2); (try clear hni); (try clear hmi); (try clear hs1); (try clear hrm); (try clear hqb); (try clear hsz); (try clear s₁); (try clear h_b); (try clear h_i); (try clear hq18); omega) | omega)) (sE_leafA 12 1100 hi9 hb9 (by decide)) rfl ⟨by (first | ((try clear ex9); (try clear c30_); (try clear c17_); (try clear ha2); (try clear ha1); (try clear hnm); (try clear hs2); (try clear hmi); (try clear hs1); (try clear hrm); (try clear hqb); (try clear hsz); (try clear s₁); (try clear h_b); (try clear h_i); (try clear hq18); (try clear hi9); (try clear hb9); omega) | omega), by (first | ((try clear ex9); (try clear c17_); (try clear ha2); (try clear hnm); (try clear hs2); (try clear hmi); (try clear hs1); (try clear hqb); (try clear hsz); (try clear s₁); (try clear h_b); (try clear hq18); (try clear hi9); (try clear hb9); omega) | omega)⟩ (by decide) dX8_chooseAt_53 (fun H locs hP hS => ?_)
      obtain ⟨μ4, eμ4⟩ : ∃ x : va_M, x = uz μ (b + 12) (μ (q + 4) (i).toNat).toNat ((μ (b + 12) (μ (q + 4) (i).toNat).toNat) + 1) := ⟨_, rfl⟩
      rw [← eμ4] at hP
      refine lv_goto (tgt := 153) hx hb dX8_chooseAt_54 (by decide) ?_
      refine lv_iload_n hx hb dX8_chooseAt_153 rfl (lv_at hl 3 rfl) ?_
      refine lv_iconst (v := iZ 1) hx hb dX8_chooseAt_154 rfl ?_
      refine lv_iadd hx hb dX8_chooseAt_155 ?_
      refine lv_topi (fun x9 ex9 => ?_)
      obtain rfl : x9 = iZ (i + 1) := ex9.trans (iZ_add _ _)
      exact W.iret (v := iZ (i + 1)) hx hb hr (fun t9 ht9 hW9 => ⟨⟨iZ (i + 1), (μ4, i + 1), rfl, ⟨rfl, (by
                    dsimp only
                    refine ⟨by (first | ((try clear ex9); (try clear x); (try clear eμ4); (try clear μ4); (try clear c30_); (try clear c17_); (try clear ha2); (try clear ha1); (try clear hnm); (try clear hs2); (try clear hni); (try clear hmi); (try clear hs1); (try clear hrm); (try clear hqb); (try clear hsz); (try clear s₁); (try clear h_b); (try clear hq18); (try clear hi9); (try clear hb9); omega) | omega), ?_⟩
                    rw [eμ4]
                    exact fr_uz (fr_rfl) (Or.inl rfl))⟩, by rw [ht9]; exact hP, va_K.moved hW9.alike hK⟩, hS.F ht9⟩) hS.2.2 dX8_chooseAt_156
    · refine lv_iload hx hb dX8_chooseAt_33 (lv_at hl 0 rfl) ?_
      refine lv_iconst (v := iZ 1) hx hb dX8_chooseAt_35 rfl ?_
      refine lv_iadd hx hb dX8_chooseAt_36 ?_
      refine lv_topi (fun x9 ex9 => ?_)
      obtain rfl : x9 = iZ ((μ (q + 2) (i).toNat) + 1) := ex9.trans (iZ_add _ _)
      exact W.iret (v := iZ ((μ (q + 2) (i).toNat) + 1)) hx hb hr (fun t9 ht9 hW9 => ⟨⟨iZ ((μ (q + 2) (i).toNat) + 1), (μ, (μ (q + 2) (i).toNat) + 1), rfl, ⟨rfl, (by
                    dsimp only
                    refine ⟨by (first | ((try clear ex9); (try clear c30_); (try clear c17_); (try clear ha2); (try clear ha1); (try clear hnm); (try clear hs2); (try clear hni); (try clear hs1); (try clear hrm); (try clear hqb); (try clear hsz); (try clear s₁); (try clear h_b); (try clear h_i); (try clear hq18); (try clear hi9); (try clear hb9); omega) | omega), ?_⟩
                    exact fr_rfl)⟩, by rw [ht9]; exact hP, va_K.moved hW9.alike hK⟩, hS.F ht9⟩) hS.2.2 dX8_chooseAt_37
set_option maxHeartbeats 4000000 in
set_option maxRecDepth 100000 in
theorem LX8_walk_16 {p : Program} {l : Launch} {e : Env} {R : Room} {s : State} {m : MethodId} {args : Array Value} {below : List Frame} {meth : Method} {c : Code} {cells slots : Nat} {Q : State → Prop} {dC : Nat → ClassId} {dI : Nat → Nat → Nat} {h0 : Nat} {cI cZ cII cIII : ClassId} (hx : p.tables.exec = Jvm.exec) (hb : c.code = cX8_walk) (hml : c.maxLocals = 9) (hown : s.vm.findClass RX8 = some m.cls) (hts : ∀ w ∈ wsG, w.before args s = true) (hK : va_K (dC, dI) vwCl (sT cI cZ cII cIII) s) (hM : xM s) (hRf : 5 ≤ R.frames) (hRl : 113 ≤ R.locals) (hRc : cells ≤ R.cells) (hRs : slots ≤ R.slots) (μ0 : va_M) (q : Nat) (rm : Nat) (b : Nat) (ii : Nat) (kc : Nat) (nc : Nat) (n : Int) (wc : Int) (hq : rowB q rm) (hb9 : b = 113 + ii * 15) (hi9 : ii < 8) (hq18 : q + 6 ≤ 18) (hG : rG μ0 q rm) (hwc : 0 ≤ wc ∧ wc ≤ 1000000000) (h_n : 0 ≤ n ∧ n ≤ 60) (hkc : 110 ≤ kc ∧ kc < 233 ∧ 60 ≤ nc ∧ nc ≤ 1101) (hE : ∀ f, sE cI cZ cII cIII h0 kc f = .inl (cI, nc, .inl f)) (hcr : ∀ j, inR (μ0 kc j)) (hexit49 : ∀ (i : Int) (μ : va_M) (H : Heap) (locs : List Loc) (ls : Array Slot), (fr (fun x _ => (x = 46 ∨ x = 47) ∨ (b + 10 ≤ x ∧ x ≤ b + 13)) μ0 μ) → (aB μ) → (μ (b + 10) 1 = wc) → va_P (dC, dI) vwCl (fw (sE cI cZ cII cIII h0) h0 233 μ) H → va_S (fA h0 233 s.heap.size) s.heap H locs → lv_has ls 9 [(4, .ref (h0 + (b + 10))), (3, .int (iZ (n))), (2, .ref (h0 + kc)), (1, .ref (h0 + q)), (0, .ref (h0 + 45))] → W p l e R s m args below meth c H locs cells slots Q (F0 m 49 ls [])) :
    ∀ (n9 : Nat) (i : Int) (μ : va_M) (H : Heap) (locs : List Loc) (ls : Array Slot), (0 ≤ i ∧ i ≤ μ0 q 6) → (fr (fun x _ => (x = 46 ∨ x = 47) ∨ (b + 10 ≤ x ∧ x ≤ b + 13)) μ0 μ) → (aB μ) → (μ (b + 10) 1 = wc) → (1101 - i).toNat < n9 → va_P (dC, dI) vwCl (fw (sE cI cZ cII cIII h0) h0 233 μ) H → va_S (fA h0 233 s.heap.size) s.heap H locs → lv_has ls 9 [(5, .int (iZ (i))), (4, .ref (h0 + (b + 10))), (3, .int (iZ (n))), (2, .ref (h0 + kc)), (1, .ref (h0 + q)), (0, .ref (h0 + 45))] → W p l e R s m args below meth c H locs cells slots Q (F0 m 16 ls []) := by
  intro n9
  induction n9 with
  | zero => intro i μ H locs ls hi hf hA hw9 hm9 hP hS hl; exact absurd hm9 (Nat.not_lt_zero _)
  | succ n9 ih =>
    intro i μ H locs ls hi hf hA hw9 hm9 hP hS hl
    have hrm := rG_rm hq hG
    have hrn := rG_nod hG
    have hqb := rowB_b hq
    have x5 : μ q 5 = μ0 q 5 := hf _ _ (by (first | ((try clear x5); (try clear hrn); (try clear hrm); (try clear hm9); (try clear hA); (try clear hf); (try clear hi); (try clear hexit49); (try clear hE); (try clear hkc); (try clear h_n); (try clear hwc); (try clear hRs); (try clear hRc); (try clear hRl); (try clear hRf); omega) | omega))
    have x6 : μ q 6 = μ0 q 6 := hf _ _ (by (first | ((try clear x6); (try clear x5); (try clear hrn); (try clear hrm); (try clear hm9); (try clear hA); (try clear hf); (try clear hi); (try clear hexit49); (try clear hE); (try clear hkc); (try clear h_n); (try clear hwc); (try clear hRs); (try clear hRc); (try clear hRl); (try clear hRf); omega) | omega))
    have hG1 : rG μ q rm := rG_fr hG (fun x y h8 h9 => hf _ _ (by (first | ((try clear y); (try clear x6); (try clear x5); (try clear hrn); (try clear hrm); (try clear hm9); (try clear hA); (try clear hf); (try clear hi); (try clear hexit49); (try clear hE); (try clear hkc); (try clear h_n); (try clear hwc); (try clear hRs); (try clear hRc); (try clear hRl); (try clear hRf); omega) | omega)))
    refine lv_iload hx hb dX8_walk_16 (lv_at hl 0 rfl) ?_
    refine lv_aload_n hx hb dX8_walk_18 rfl (lv_at hl 4 rfl) ?_
    refine fz_get (D := (dC, dI)) (ci := 4) (v := .int (iZ (μ q 6))) (C := RX4) (T := TX4) (N := 8) hx hb hts inG4 hown hK hP (k := q) (by (first | ((try clear x6); (try clear x5); (try clear hrn); (try clear hrm); (try clear hm9); (try clear hA); (try clear hf); (try clear hi); (try clear hexit49); (try clear hE); (try clear hkc); (try clear h_n); (try clear hwc); (try clear hi9); (try clear hb9); (try clear hRs); (try clear hRc); (try clear hRl); (try clear hRf); omega) | omega)) (F := (sRF h0 q)) (sE_rowO hq) rfl 6 (by decide) (hts _ k102) (fun _ h9 => h9) rfl dX8_walk_19 ?_
    refine fz_icmp_ge (tgt := 49) (by constructor <;> (first | ((try clear hm9); (try clear hA); (try clear hf); (try clear hexit49); (try clear hE); (try clear hkc); (try clear h_n); (try clear hwc); (try clear hq18); (try clear hi9); (try clear hb9); (try clear hRs); (try clear hRc); (try clear hRl); (try clear hRf); omega) | omega)) (by constructor <;> (first | ((try clear hm9); (try clear hA); (try clear hf); (try clear hi); (try clear hexit49); (try clear hE); (try clear hkc); (try clear h_n); (try clear hwc); (try clear hq18); (try clear hi9); (try clear hb9); (try clear hRs); (try clear hRc); (try clear hRl); (try clear hRf); omega) | omega)) hx hb dX8_walk_22 (by decide) (fun c22_ => ?_) (fun c22_ => ?_)
    · exact hexit49 (i) μ H locs ls (by exact hf) (by exact hA) (by exact hw9) hP hS (lv_sub hl [1, 2, 3, 4, 5] rfl)
    · refine lv_aload hx hb dX8_walk_25 (lv_at hl 1 rfl) ?_
      refine fz_get (D := (dC, dI)) (ci := 7) (v := .ref (h0 + (b + 12))) (C := RX7) (T := TX7) (N := 5) hx hb hts inG7 hown hK hP (k := (b + 10)) (by (first | ((try clear c22_); (try clear x6); (try clear x5); (try clear hqb); (try clear hrn); (try clear hrm); (try clear hm9); (try clear hA); (try clear hf); (try clear hi); (try clear hexit49); (try clear hE); (try clear hkc); (try clear h_n); (try clear hwc); (try clear hq18); (try clear hRs); (try clear hRc); (try clear hRl); (try clear hRf); omega) | omega)) (F := (sWF h0 b)) (sE_walk hi9 hb9) rfl 3 (by decide) (hts _ k280) (fun _ h9 => h9) rfl dX8_walk_27 ?_
      refine lv_iload hx hb dX8_walk_30 (lv_at hl 0 rfl) ?_
      refine lv_iconst (v := iZ 0) hx hb dX8_walk_32 rfl ?_
      refine fz_st (k := (b + 12)) (n := 1100) (i := i) (z := 0) hx hb hK hP fA_in hS 0 (by (first | ((try clear c22_); (try clear x6); (try clear x5); (try clear hqb); (try clear hrn); (try clear hrm); (try clear hm9); (try clear hA); (try clear hf); (try clear hi); (try clear hexit49); (try clear hE); (try clear hkc); (try clear h_n); (try clear hwc); (try clear hq18); (try clear hRs); (try clear hRc); (try clear hRl); (try clear hRf); omega) | omega)) (sE_leafA 12 1100 hi9 hb9 (by decide)) rfl ⟨by (first | ((try clear c22_); (try clear x6); (try clear x5); (try clear hqb); (try clear hrn); (try clear hrm); (try clear hm9); (try clear hA); (try clear hf); (try clear hexit49); (try clear hE); (try clear hkc); (try clear h_n); (try clear hwc); (try clear hq18); (try clear hi9); (try clear hb9); (try clear hRs); (try clear hRc); (try clear hRl); (try clear hRf); omega) | omega), by (first | ((try clear hm9); (try clear hA); (try clear hf); (try clear hi); (try clear hexit49); (try clear hE); (try clear hkc); (try clear h_n); (try clear hwc); (try clear hq18); (try clear hi9); (try clear hb9); (try clear hRs); (try clear hRc); (try clear hRl); (try clear hRf); omega) | omega)⟩ (by decide) dX8_walk_33 (fun H locs hP hS => ?_)
      obtain ⟨μ1, eμ1⟩ : ∃ x : va_M, x = uz μ (b + 12) (i).toNat (0) := ⟨_, rfl⟩
      rw [← eμ1] at hP
      refine lv_aload hx hb dX8_walk_34 (lv_at hl 1 rfl) ?_
      refine fz_get (D := (dC, dI)) (ci := 7) (v := .ref (h0 + (b + 13))) (C := RX7) (T := TX7) (N := 5) hx hb hts inG7 hown hK hP (k := (b + 10)) (by (first | ((try clear x); (try clear eμ1); (try clear μ1); (try clear c22_); (try clear x6); (try clear x5); (try clear hqb); (try clear hrn); (try clear hrm); (try clear hm9); (try clear hA); (try clear hf); (try clear hi); (try clear hexit49); (try clear hE); (try clear hkc); (try clear h_n); (try clear hwc); (try clear hq18); (try clear hRs); (try clear hRc); (try clear hRl); (try clear hRf); omega) | omega)) (F := (sWF h0 b)) (sE_walk hi9 hb9) rfl 4 (by decide) (hts _ k283) (fun _ h9 => h9) rfl dX8_walk_36 ?_
      refine lv_iload hx hb dX8_walk_39 (lv_at hl 0 rfl) ?_
      refine lv_iconst (v := iZ 0) hx hb dX8_walk_41 rfl ?_
      refine fz_st (k := (b + 13)) (n := 1100) (i := i) (z := 0) hx hb hK hP fA_in hS 0 (by (first | ((try clear x); (try clear eμ1); (try clear μ1); (try clear c22_); (try clear x6); (try clear x5); (try clear hqb); (try clear hrn); (try clear hrm); (try clear hm9); (try clear hA); (try clear hf); (try clear hi); (try clear hexit49); (try clear hE); (try clear hkc); (try clear h_n); (try clear hwc); (try clear hq18); (try clear hRs); (try clear hRc); (try clear hRl); (try clear hRf); omega) | omega)) (sE_leafA 13 1100 hi9 hb9 (by decide)) rfl ⟨by (first | ((try clear x); (try clear eμ1); (try clear μ1); (try clear c22_); (try clear x6); (try clear x5); (try clear hqb); (try clear hrn); (try clear hrm); (try clear hm9); (try clear hA); (try clear hf); (try clear hexit49); (try clear hE); (try clear hkc); (try clear h_n); (try clear hwc); (try clear hq18); (try clear hi9); (try clear hb9); (try clear hRs); (try clear hRc); (try clear hRl); (try clear hRf); omega) | omega), by (first | ((try clear x); (try clear eμ1); (try clear μ1); (try clear hm9); (try clear hA); (try clear hf); (try clear hi); (try clear hexit49); (try clear hE); (try clear hkc); (try clear h_n); (try clear hwc); (try clear hq18); (try clear hi9); (try clear hb9); (try clear hRs); (try clear hRc); (try clear hRl); (try clear hRf); omega) | omega)⟩ (by decide) dX8_walk_42 (fun H locs hP hS => ?_)
      obtain ⟨μ2, eμ2⟩ : ∃ x : va_M, x = uz μ1 (b + 13) (i).toNat (0) := ⟨_, rfl⟩
      rw [← eμ2] at hP
      refine lv_iinc (v := iZ (i + 1)) (lv' := [(5, .int (iZ (i + 1))), (4, .ref (h0 + (b + 10))), (3, .int (iZ (n))), (2, .ref (h0 + kc)), (1, .ref (h0 + q)), (0, .ref (h0 + 45))]) hx hb dX8_walk_43 hl (k := 0) rfl (iZ_add _ _) (by decide) rfl (fun ls hl => ?_)
      refine lv_goto (tgt := 16) hx hb dX8_walk_46 (by decide) ?_
      exact ih (i + 1) μ2 H locs ls (by (first | ((try clear μ1); (try clear x); (try clear eμ2); (try clear μ2); (try clear eμ1); (try clear x5); (try clear hqb); (try clear hrn); (try clear hrm); (try clear hm9); (try clear hA); (try clear hf); (try clear hexit49); (try clear hE); (try clear hkc); (try clear h_n); (try clear hwc); (try clear hq18); (try clear hi9); (try clear hb9); (try clear hRs); (try clear hRc); (try clear hRl); (try clear hRf); omega) | omega)) (by rw [eμ2, eμ1]; exact fr_uz (fr_uz hf (Or.inr (by (first | ((try clear μ1); (try clear x); (try clear eμ2); (try clear μ2); (try clear eμ1); (try clear c22_); (try clear x6); (try clear x5); (try clear hqb); (try clear hrn); (try clear hrm); (try clear hm9); (try clear hA); (try clear hf); (try clear hi); (try clear hexit49); (try clear hE); (try clear hkc); (try clear h_n); (try clear hwc); (try clear hq18); (try clear hi9); (try clear hb9); (try clear hRs); (try clear hRc); (try clear hRl); (try clear hRf); omega) | omega)))) (Or.inr (by (first | ((try clear μ1); (try clear x); (try clear eμ2); (try clear μ2); (try clear eμ1); (try clear c22_); (try clear x6); (try clear x5); (try clear hqb); (try clear hrn); (try clear hrm); (try clear hm9); (try clear hA); (try clear hf); (try clear hi); (try clear hexit49); (try clear hE); (try clear hkc); (try clear h_n); (try clear hwc); (try clear hq18); (try clear hi9); (try clear hb9); (try clear hRs); (try clear hRc); (try clear hRl); (try clear hRf); omega) | omega)))) (by rw [eμ2, eμ1]; exact aB_uz (aB_uz hA (fun _ => by (first | ((try clear μ1); (try clear x); (try clear eμ2); (try clear μ2); (try clear eμ1); (try clear c22_); (try clear x6); (try clear x5); (try clear hqb); (try clear hrn); (try clear hrm); (try clear hm9); (try clear hA); (try clear hf); (try clear hi); (try clear hexit49); (try clear hE); (try clear hkc); (try clear h_n); (try clear hwc); (try clear hq18); (try clear hi9); (try clear hb9); (try clear hRs); (try clear hRc); (try clear hRl); (try clear hRf); omega) | omega))) (fun _ => by (first | ((try clear μ1); (try clear x); (try clear eμ2); (try clear μ2); (try clear eμ1); (try clear c22_); (try clear x6); (try clear x5); (try clear hqb); (try clear hrn); (try clear hrm); (try clear hm9); (try clear hA); (try clear hf); (try clear hi); (try clear hexit49); (try clear hE); (try clear hkc); (try clear h_n); (try clear hwc); (try clear hq18); (try clear hi9); (try clear hb9); (try clear hRs); (try clear hRc); (try clear hRl); (try clear hRf); omega) | omega))) (by rw [eμ2, eμ1, uz_n (by (first | ((try clear μ1); (try clear x); (try clear eμ2); (try clear μ2); (try clear eμ1); (try clear c22_); (try clear x6); (try clear x5); (try clear hqb); (try clear hrn); (try clear hrm); (try clear hm9); (try clear hA); (try clear hf); (try clear hi); (try clear hexit49); (try clear hE); (try clear hkc); (try clear h_n); (try clear hwc); (try clear hq18); (try clear hi9); (try clear hb9); (try clear hRs); (try clear hRc); (try clear hRl); (try clear hRf); omega) | omega)), uz_n (by (first | ((try clear μ1); (try clear x); (try clear eμ2); (try clear μ2); (try clear eμ1); (try clear c22_); (try clear x6); (try clear x5); (try clear hqb); (try clear hrn); (try clear hrm); (try clear hm9); (try clear hA); (try clear hf); (try clear hi); (try clear hexit49); (try clear hE); (try clear hkc); (try clear h_n); (try clear hwc); (try clear hq18); (try clear hi9); (try clear hb9); (try clear hRs); (try clear hRc); (try clear hRl); (try clear hRf); omega) | omega))]; exact hw9) (by (first | ((try clear μ1); (try clear x); (try clear eμ2); (try clear μ2); (try clear eμ1); (try clear hA); (try clear hf); (try clear hexit49); (try clear hE); (try clear hkc); (try clear h_n); (try clear hwc); (try clear hq18); (try clear hi9); (try clear hb9); (try clear hRs); (try clear hRc); (try clear hRl); (try clear hRf); omega) | omega)) hP hS (lv_sub hl [0, 1, 2, 3, 4, 5] rfl)
set_option maxHeartbeats 4000000 in
set_option maxRecDepth 100000 in
theorem LX8_walk_75 {p : Program} {l : Launch} {e : Env} {R : Room} {s : State} {m : MethodId} {args : Array Value} {below : List Frame} {meth : Method} {c : Code} {cells slots : Nat} {Q : State → Prop} {dC : Nat → ClassId} {dI : Nat → Nat → Nat} {h0 : Nat} {cI cZ cII cIII : ClassId} (hx : p.tables.exec = Jvm.exec) (hb : c.code = cX8_walk) (hml : c.maxLocals = 9) (hown : s.vm.findClass RX8 = some m.cls) (hts : ∀ w ∈ wsG, w.before args s = true) (hK : va_K (dC, dI) vwCl (sT cI cZ cII cIII) s) (hM : xM s) (hRf : 5 ≤ R.frames) (hRl : 113 ≤ R.locals) (hRc : cells ≤ R.cells) (hRs : slots ≤ R.slots) (μ0 : va_M) (q : Nat) (rm : Nat) (b : Nat) (ii : Nat) (kc : Nat) (nc : Nat) (n : Int) (wc : Int) (hq : rowB q rm) (hb9 : b = 113 + ii * 15) (hi9 : ii < 8) (hq18 : q + 6 ≤ 18) (hG : rG μ0 q rm) (hwc : 0 ≤ wc ∧ wc ≤ 1000000000) (h_n : 0 ≤ n ∧ n ≤ 60) (hkc : 110 ≤ kc ∧ kc < 233 ∧ 60 ≤ nc ∧ nc ≤ 1101) (hE : ∀ f, sE cI cZ cII cIII h0 kc f = .inl (cI, nc, .inl f)) (hcr : ∀ j, inR (μ0 kc j)) (hexit180 : ∀ (i : Int) (k : Int) (tu : Int) (μ : va_M) (H : Heap) (locs : List Loc) (ls : Array Slot), (fr (fun x _ => (x = 46 ∨ x = 47) ∨ (b + 10 ≤ x ∧ x ≤ b + 13)) μ0 μ) → (aB μ) → (μ (b + 10) 1 = wc) → va_P (dC, dI) vwCl (fw (sE cI cZ cII cIII h0) h0 233 μ) H → va_S (fA h0 233 s.heap.size) s.heap H locs → lv_has ls 9 [] → W p l e R s m args below meth c H locs cells slots Q (F0 m 180 ls [])) :
    ∀ (n9 : Nat) (i : Int) (k : Int) (tu : Int) (μ : va_M) (H : Heap) (locs : List Loc) (ls : Array Slot), (0 ≤ i ∧ i ≤ μ0 q 5 ∧ 0 ≤ k ∧ k ≤ n ∧ 0 ≤ tu ∧ tu ≤ 1000000) → (fr (fun x _ => (x = 46 ∨ x = 47) ∨ (b + 10 ≤ x ∧ x ≤ b + 13)) μ0 μ) → (aB μ) → (μ (b + 10) 1 = wc) → (1000000 - tu).toNat < n9 → va_P (dC, dI) vwCl (fw (sE cI cZ cII cIII h0) h0 233 μ) H → va_S (fA h0 233 s.heap.size) s.heap H locs → lv_has ls 9 [(8, .int (iZ (tu))), (7, .int (iZ (k))), (6, .int (iZ (i))), (5, .int (iZ (μ0 q 5 + 1))), (4, .ref (h0 + (b + 10))), (3, .int (iZ (n))), (2, .ref (h0 + kc)), (1, .ref (h0 + q)), (0, .ref (h0 + 45))] → W p l e R s m args below meth c H locs cells slots Q (F0 m 75 ls []) := by
  intro n9
  induction n9 with
  | zero => intro i k tu μ H locs ls hi hf hA hw9 hm9 hP hS hl; exact absurd hm9 (Nat.not_lt_zero _)
  | succ n9 ih =>
    intro i k tu μ H locs ls hi hf hA hw9 hm9 hP hS hl
    have hrm := rG_rm hq hG
    have hrn := rG_nod hG
    have hqb := rowB_b hq
    have x5 : μ q 5 = μ0 q 5 := hf _ _ (by (first | ((try clear x5); (try clear hrn); (try clear hrm); (try clear hm9); (try clear hA); (try clear hf); (try clear hi); (try clear hexit180); (try clear hE); (try clear hkc); (try clear h_n); (try clear hwc); (try clear hRs); (try clear hRc); (try clear hRl); (try clear hRf); omega) | omega))
    have x6 : μ q 6 = μ0 q 6 := hf _ _ (by (first | ((try clear x6); (try clear x5); (try clear hrn); (try clear hrm); (try clear hm9); (try clear hA); (try clear hf); (try clear hi); (try clear hexit180); (try clear hE); (try clear hkc); (try clear h_n); (try clear hwc); (try clear hRs); (try clear hRc); (try clear hRl); (try clear hRf); omega) | omega))
    have hG1 : rG μ q rm := rG_fr hG (fun x y h8 h9 => hf _ _ (by (first | ((try clear y); (try clear x6); (try clear x5); (try clear hrn); (try clear hrm); (try clear hm9); (try clear hA); (try clear hf); (try clear hi); (try clear hexit180); (try clear hE); (try clear hkc); (try clear h_n); (try clear hwc); (try clear hRs); (try clear hRc); (try clear hRl); (try clear hRf); omega) | omega)))
    refine lv_iload hx hb dX8_walk_75 (lv_at hl 0 rfl) ?_
    refine lv_ldc (v := iZ 1000000) hx hb hown (hts _ k553) dX8_walk_77 ?_
    refine fz_icmp_ge (tgt := 180) (by constructor <;> (first | ((try clear x6); (try clear x5); (try clear hqb); (try clear hrn); (try clear hrm); (try clear hm9); (try clear hA); (try clear hf); (try clear hexit180); (try clear hE); (try clear hkc); (try clear h_n); (try clear hwc); (try clear hq18); (try clear hi9); (try clear hb9); (try clear hRs); (try clear hRc); (try clear hRl); (try clear hRf); omega) | omega)) (by decide) hx hb dX8_walk_79 (by decide) (fun c79_ => ?_) (fun c79_ => ?_)
    · exact hexit180 (i) (k) (tu) μ H locs ls (by exact hf) (by exact hA) (by exact hw9) hP hS (lv_sub hl [] rfl)
    · refine lv_iload hx hb dX8_walk_82 (lv_at hl 2 rfl) ?_
      refine lv_aload_n hx hb dX8_walk_84 rfl (lv_at hl 7 rfl) ?_
      refine fz_get (D := (dC, dI)) (ci := 4) (v := .int (iZ (μ q 5))) (C := RX4) (T := TX4) (N := 8) hx hb hts inG4 hown hK hP (k := q) (by (first | ((try clear c79_); (try clear x6); (try clear x5); (try clear hrn); (try clear hrm); (try clear hm9); (try clear hA); (try clear hf); (try clear hi); (try clear hexit180); (try clear hE); (try clear hkc); (try clear h_n); (try clear hwc); (try clear hi9); (try clear hb9); (try clear hRs); (try clear hRc); (try clear hRl); (try clear hRf); omega) | omega)) (F := (sRF h0 q)) (sE_rowO hq) rfl 5 (by decide) (hts _ k93) (fun _ h9 => h9) rfl dX8_walk_85 ?_
      refine fz_icmp_ge (tgt := 180) (by constructor <;> (first | ((try clear c79_); (try clear x6); (try clear hrn); (try clear hm9); (try clear hA); (try clear hf); (try clear hexit180); (try clear hE); (try clear hkc); (try clear h_n); (try clear hwc); (try clear hq18); (try clear hi9); (try clear hb9); (try clear hRs); (try clear hRc); (try clear hRl); (try clear hRf); omega) | omega)) (by constructor <;> (first | ((try clear c79_); (try clear x6); (try clear hrn); (try clear hm9); (try clear hA); (try clear hf); (try clear hi); (try clear hexit180); (try clear hE); (try clear hkc); (try clear h_n); (try clear hwc); (try clear hq18); (try clear hi9); (try clear hb9); (try clear hRs); (try clear hRc); (try clear hRl); (try clear hRf); omega) | omega)) hx hb dX8_walk_88 (by decide) (fun c88_ => ?_) (fun c88_ => ?_)
      · exact hexit180 (i) (k) (tu) μ H locs ls (by exact hf) (by exact hA) (by exact hw9) hP hS (lv_sub hl [] rfl)
      · have hs1 := hG1.1 i.toNat
        have hni := rG_n hG1 i (by (first | ((try clear hni); (try clear hs1); (try clear c88_); (try clear c79_); (try clear x6); (try clear x5); (try clear hqb); (try clear hrn); (try clear hrm); (try clear hm9); (try clear hA); (try clear hf); (try clear hexit180); (try clear hE); (try clear hkc); (try clear h_n); (try clear hwc); (try clear hq18); (try clear hi9); (try clear hb9); (try clear hRs); (try clear hRc); (try clear hRl); (try clear hRf); omega) | omega)) (by (first | ((try clear hni); (try clear hs1); (try clear c79_); (try clear x6); (try clear x5); (try clear hqb); (try clear hrn); (try clear hrm); (try clear hm9); (try clear hA); (try clear hf); (try clear hi); (try clear hexit180); (try clear hE); (try clear hkc); (try clear h_n); (try clear hwc); (try clear hq18); (try clear hi9); (try clear hb9); (try clear hRs); (try clear hRc); (try clear hRl); (try clear hRf); omega) | omega))
        have mb := mulB k (μ0 q 5 + 1) (by (first | ((try clear mb); (try clear hni); (try clear hs1); (try clear c88_); (try clear c79_); (try clear x6); (try clear x5); (try clear hqb); (try clear hrn); (try clear hrm); (try clear hm9); (try clear hA); (try clear hf); (try clear hexit180); (try clear hE); (try clear hkc); (try clear h_n); (try clear hwc); (try clear hq18); (try clear hi9); (try clear hb9); (try clear hRs); (try clear hRc); (try clear hRl); (try clear hRf); omega) | omega)) (by (first | ((try clear mb); (try clear hni); (try clear hs1); (try clear c88_); (try clear c79_); (try clear x6); (try clear x5); (try clear hqb); (try clear hrn); (try clear hrm); (try clear hm9); (try clear hA); (try clear hf); (try clear hexit180); (try clear hE); (try clear hkc); (try clear hwc); (try clear hq18); (try clear hi9); (try clear hb9); (try clear hRs); (try clear hRc); (try clear hRl); (try clear hRf); omega) | omega)) (by (first | ((try clear mb); (try clear hni); (try clear hs1); (try clear c88_); (try clear c79_); (try clear x6); (try clear hqb); (try clear hrn); (try clear hm9); (try clear hA); (try clear hf); (try clear hi); (try clear hexit180); (try clear hE); (try clear hkc); (try clear h_n); (try clear hwc); (try clear hq18); (try clear hi9); (try clear hb9); (try clear hRs); (try clear hRc); (try clear hRl); (try clear hRf); omega) | omega)) (by (first | ((try clear mb); (try clear hni); (try clear hs1); (try clear c88_); (try clear c79_); (try clear x6); (try clear hrn); (try clear hm9); (try clear hA); (try clear hf); (try clear hi); (try clear hexit180); (try clear hE); (try clear hkc); (try clear h_n); (try clear hwc); (try clear hq18); (try clear hi9); (try clear hb9); (try clear hRs); (try clear hRc); (try clear hRl); (try clear hRf); omega) | omega))
        refine lv_aload_n hx hb dX8_walk_91 rfl (lv_at hl 7 rfl) ?_
        refine fz_get (D := (dC, dI)) (ci := 4) (v := .ref (h0 + (q + 1))) (C := RX4) (T := TX4) (N := 8) hx hb hts inG4 hown hK hP (k := q) (by (first | ((try clear mb); (try clear hni); (try clear hs1); (try clear c88_); (try clear c79_); (try clear x6); (try clear x5); (try clear hrn); (try clear hrm); (try clear hm9); (try clear hA); (try clear hf); (try clear hi); (try clear hexit180); (try clear hE); (try clear hkc); (try clear h_n); (try clear hwc); (try clear hi9); (try clear hb9); (try clear hRs); (try clear hRc); (try clear hRl); (try clear hRf); omega) | omega)) (F := (sRF h0 q)) (sE_rowO hq) rfl 0 (by decide) (hts _ k81) (fun _ h9 => h9) rfl dX8_walk_92 ?_
        refine lv_iload hx hb dX8_walk_95 (lv_at hl 2 rfl) ?_
        refine fz_ld (k := (q + 1)) (n := rm) hx hb hK hP 0 (by (first | ((try clear mb); (try clear hni); (try clear hs1); (try clear c88_); (try clear c79_); (try clear x6); (try clear x5); (try clear hrn); (try clear hrm); (try clear hm9); (try clear hA); (try clear hf); (try clear hi); (try clear hexit180); (try clear hE); (try clear hkc); (try clear h_n); (try clear hwc); (try clear hi9); (try clear hb9); (try clear hRs); (try clear hRc); (try clear hRl); (try clear hRf); omega) | omega)) (sE_rowA (r := 1) hq (by decide)) rfl ⟨by (first | ((try clear mb); (try clear hni); (try clear hs1); (try clear c88_); (try clear c79_); (try clear x6); (try clear x5); (try clear hqb); (try clear hrn); (try clear hrm); (try clear hm9); (try clear hA); (try clear hf); (try clear hexit180); (try clear hE); (try clear hkc); (try clear h_n); (try clear hwc); (try clear hq18); (try clear hi9); (try clear hb9); (try clear hRs); (try clear hRc); (try clear hRl); (try clear hRf); omega) | omega), by (first | ((try clear mb); (try clear hni); (try clear hs1); (try clear c79_); (try clear x6); (try clear hqb); (try clear hrn); (try clear hm9); (try clear hA); (try clear hf); (try clear hi); (try clear hexit180); (try clear hE); (try clear hkc); (try clear h_n); (try clear hwc); (try clear hq18); (try clear hi9); (try clear hb9); (try clear hRs); (try clear hRc); (try clear hRl); (try clear hRf); omega) | omega)⟩ (by (first | ((try clear hni); (try clear hs1); (try clear c88_); (try clear c79_); (try clear x6); (try clear x5); (try clear hrn); (try clear hrm); (try clear hm9); (try clear hA); (try clear hf); (try clear hi); (try clear hexit180); (try clear hE); (try clear hkc); (try clear h_n); (try clear hwc); (try clear hq18); (try clear hi9); (try clear hb9); (try clear hRs); (try clear hRc); (try clear hRl); (try clear hRf); omega) | omega)) dX8_walk_97 ?_
        refine va_calli (va_runSN (As := [.int (iZ (μ (q + 1) (i).toNat))]) (rest := []) ⟨hx, hb, hml, hown, hts⟩ (s_isLeaf l dC dI cI cZ cII cIII h0 H.size μ (μ (q + 1) (i).toNat) (by first | assumption | (first | ((try clear mb); (try clear hni); (try clear c88_); (try clear c79_); (try clear x6); (try clear x5); (try clear hqb); (try clear hrn); (try clear hrm); (try clear hm9); (try clear hA); (try clear hf); (try clear hi); (try clear hexit180); (try clear hE); (try clear hkc); (try clear h_n); (try clear hwc); (try clear hq18); (try clear hi9); (try clear hb9); (try clear hRs); (try clear hRc); (try clear hRl); (try clear hRf); omega) | omega) | exact ⟨by omega, by omega⟩)) ⟨va_cnB (host := "PageSkeleton") 1 hts (gI_G k420) rfl rfl rfl (xM_nest hM 13 rfl) (hts _ k1) (by decide +kernel) ⟨by show 1 + 1 ≤ _; (first | ((try clear mb); (try clear hni); (try clear hs1); (try clear c88_); (try clear c79_); (try clear x6); (try clear x5); (try clear hqb); (try clear hrn); (try clear hrm); (try clear hm9); (try clear hA); (try clear hf); (try clear hi); (try clear hexit180); (try clear hE); (try clear hkc); (try clear h_n); (try clear hwc); (try clear hq18); (try clear hi9); (try clear hb9); (try clear hRs); (try clear hRc); (try clear hRl); omega) | omega), by show 8 + (1 + 11) + (14) ≤ _; (first | ((try clear mb); (try clear hni); (try clear hs1); (try clear c88_); (try clear c79_); (try clear x6); (try clear x5); (try clear hqb); (try clear hrn); (try clear hrm); (try clear hm9); (try clear hA); (try clear hf); (try clear hi); (try clear hexit180); (try clear hE); (try clear hkc); (try clear h_n); (try clear hwc); (try clear hq18); (try clear hi9); (try clear hb9); (try clear hRs); (try clear hRc); (try clear hRf); omega) | omega)⟩, hts _ k419, trivial⟩ ⟨fun a U g mk q => by obtain ⟨q0, q1, qP, qK, qM⟩ := q; exact ⟨q0, q1, qP, va_K.moved (u := U) (U := U.calling g mk a) (Vm.Alike.refl U.vm) qK, qM⟩, fun U hU hW => ⟨rfl, by rw [hU], by rw [hU]; exact hP, va_K.moved hW.alike hK, xM_warm hW hM⟩⟩ rfl rfl hl.1 rfl (lv_room (Nat.le_of_ble_eq_true rfl)) dX8_walk_98 ⟨hRc, hRs⟩) hS (fun q _ h => fA_le hS.1 q h) (fA_le hS.1) (fun r9 u9 t9 H1 locs ht9 hvm9 hw9 hB9 hz9 hk9 hS => ?_)
        obtain ⟨μ3, r4⟩ := u9
        obtain ⟨hP, -⟩ := hB9
        rw [ht9] at hP
        generalize H1 = H at hP hS ⊢
        obtain ⟨e9, hw9⟩ := hw9
        have e9 : r9 = iZ r4 := e9
        subst e9
        simp only at hP hw9
        have hμ3 := hw9; clear hw9
        rw [hμ3.1] at hP; have hμ3 := hμ3.2
        have hlf := if_01 hμ3
        refine fz_if_eq (tgt := 158) (by constructor <;> (first | ((try clear hμ3); (try clear hz9); (try clear mb); (try clear hni); (try clear hs1); (try clear c88_); (try clear c79_); (try clear x6); (try clear x5); (try clear hqb); (try clear hrn); (try clear hrm); (try clear hm9); (try clear hA); (try clear hf); (try clear hi); (try clear hexit180); (try clear hE); (try clear hkc); (try clear h_n); (try clear hwc); (try clear hq18); (try clear hi9); (try clear hb9); (try clear hRs); (try clear hRc); (try clear hRl); (try clear hRf); omega) | omega)) hx hb dX8_walk_101 (by decide) (fun c101_ => ?_) (fun c101_ => ?_)
        · refine lv_aload_n hx hb dX8_walk_158 rfl (lv_at hl 8 rfl) ?_
          refine lv_aload_n hx hb dX8_walk_159 rfl (lv_at hl 7 rfl) ?_
          refine lv_iload hx hb dX8_walk_160 (lv_at hl 2 rfl) ?_
          refine lv_iload hx hb dX8_walk_162 (lv_at hl 1 rfl) ?_
          refine lv_iload hx hb dX8_walk_164 (lv_at hl 3 rfl) ?_
          refine lv_imul hx hb dX8_walk_166 ?_
          refine lv_topi (fun x9 ex9 => ?_)
          obtain rfl : x9 = iZ (k * (μ0 q 5 + 1)) := ex9.trans (iZ_mul _ _)
          refine lv_aload hx hb dX8_walk_167 (lv_at hl 4 rfl) ?_
          refine va_calli (va_runV (As := [.ref (h0 + q), .int (iZ (i)), .int (iZ (k * (μ0 q 5 + 1))), .ref (h0 + (b + 10))]) (rest := []) ⟨hx, hb, hml, hown, hts⟩ (s_WchooseAt l dC dI cI cZ cII cIII h0 H.size μ (q) (rm) (b) (ii) (i) (k * (μ0 q 5 + 1)) (hq) (hb9) (hi9) (by first | assumption | omega | exact ⟨by omega, by omega⟩) (by exact hG1) (by exact hA) (by first | assumption | (first | ((try clear ex9); (try clear c101_); (try clear hlf); (try clear hμ3); (try clear μ3); (try clear hz9); (try clear mb); (try clear hni); (try clear hs1); (try clear c79_); (try clear x6); (try clear x5); (try clear hqb); (try clear hrn); (try clear hrm); (try clear hm9); (try clear hA); (try clear hf); (try clear hexit180); (try clear hE); (try clear hkc); (try clear h_n); (try clear hwc); (try clear hq18); (try clear hi9); (try clear hb9); (try clear hRs); (try clear hRc); (try clear hRl); (try clear hRf); omega) | omega) | exact ⟨by omega, by omega⟩) (by (first | ((try clear ex9); (try clear c101_); (try clear hlf); (try clear hμ3); (try clear μ3); (try clear hz9); (try clear hni); (try clear hs1); (try clear c88_); (try clear c79_); (try clear x6); (try clear x5); (try clear hqb); (try clear hrn); (try clear hrm); (try clear hm9); (try clear hA); (try clear hf); (try clear hi); (try clear hexit180); (try clear hE); (try clear hkc); (try clear h_n); (try clear hwc); (try clear hq18); (try clear hi9); (try clear hb9); (try clear hRs); (try clear hRc); (try clear hRl); (try clear hRf); omega) | omega))) (cwV 4 hts (gV_G k575 k577 ks_yX8_chooseAt k8 k578) rfl rfl rfl (by decide +kernel) ⟨by show 1 + 1 ≤ _; (first | ((try clear ex9); (try clear c101_); (try clear hlf); (try clear hμ3); (try clear μ3); (try clear hz9); (try clear mb); (try clear hni); (try clear hs1); (try clear c88_); (try clear c79_); (try clear x6); (try clear x5); (try clear hqb); (try clear hrn); (try clear hrm); (try clear hm9); (try clear hA); (try clear hf); (try clear hi); (try clear hexit180); (try clear hE); (try clear hkc); (try clear h_n); (try clear hwc); (try clear hq18); (try clear hi9); (try clear hb9); (try clear hRs); (try clear hRc); (try clear hRl); omega) | omega), by show 8 + (6 + 11) + (14) ≤ _; (first | ((try clear ex9); (try clear c101_); (try clear hlf); (try clear hμ3); (try clear μ3); (try clear hz9); (try clear mb); (try clear hni); (try clear hs1); (try clear c88_); (try clear c79_); (try clear x6); (try clear x5); (try clear hqb); (try clear hrn); (try clear hrm); (try clear hm9); (try clear hA); (try clear hf); (try clear hi); (try clear hexit180); (try clear hE); (try clear hkc); (try clear h_n); (try clear hwc); (try clear hq18); (try clear hi9); (try clear hb9); (try clear hRs); (try clear hRc); (try clear hRf); omega) | omega)⟩) ⟨fun a U g mk q => by obtain ⟨q0, q1, qP, qK, qM⟩ := q; exact ⟨q0, q1, qP, va_K.moved (u := U) (U := U.calling g mk a) (Vm.Alike.refl U.vm) qK, qM⟩, va_recv hK hP (ci := 8) (q0 := 45) rfl ((fw_get (by decide)).trans (by rw [sE_45])), fun U hU hW => ⟨rfl, by rw [hU], by rw [hU]; exact hP, va_K.moved hW.alike hK, xM_warm hW hM⟩⟩ rfl rfl hl.1 rfl (lv_room (Nat.le_of_ble_eq_true rfl)) dX8_walk_169 ⟨hRc, hRs⟩) hS (fun q _ h => fA_le hS.1 q h) (fA_le hS.1) (fun r9 u9 t9 H1 locs ht9 hvm9 hw9 hB9 hz9 hk9 hS => ?_)
          obtain ⟨μc, rc⟩ := u9
          obtain ⟨hP, -⟩ := hB9
          rw [ht9] at hP
          generalize H1 = H at hP hS ⊢
          obtain ⟨e9, hw9⟩ := hw9
          have e9 : r9 = iZ rc := e9
          subst e9
          simp only at hP hw9
          have hμc := hw9; clear hw9
          obtain ⟨r2_, f2_⟩ := hμc
          refine lv_istore (lv' := [(6, .int (iZ (rc))), (8, .int (iZ (tu))), (7, .int (iZ (k))), (5, .int (iZ (μ0 q 5 + 1))), (4, .ref (h0 + (b + 10))), (3, .int (iZ (n))), (2, .ref (h0 + kc)), (1, .ref (h0 + q)), (0, .ref (h0 + 45))]) hx hb dX8_walk_172 hl (by decide) rfl (fun ls hl => ?_)
          refine lv_iinc (v := iZ (tu + 1)) (lv' := [(8, .int (iZ (tu + 1))), (6, .int (iZ (rc))), (7, .int (iZ (k))), (5, .int (iZ (μ0 q 5 + 1))), (4, .ref (h0 + (b + 10))), (3, .int (iZ (n))), (2, .ref (h0 + kc)), (1, .ref (h0 + q)), (0, .ref (h0 + 45))]) hx hb dX8_walk_174 hl (k := 1) rfl (iZ_add _ _) (by decide) rfl (fun ls hl => ?_)
          refine lv_goto (tgt := 75) hx hb dX8_walk_177 (by decide) ?_
          exact ih (rc) (k) (tu + 1) μc H locs ls (by (first | ((try clear f2_); (try clear hμc); (try clear μc); (try clear hz9); (try clear ex9); (try clear c101_); (try clear hlf); (try clear hμ3); (try clear μ3); (try clear mb); (try clear hni); (try clear hs1); (try clear c88_); (try clear x6); (try clear hqb); (try clear hrn); (try clear hrm); (try clear hm9); (try clear hA); (try clear hf); (try clear hexit180); (try clear hE); (try clear hkc); (try clear h_n); (try clear hwc); (try clear hq18); (try clear hi9); (try clear hb9); (try clear hRs); (try clear hRc); (try clear hRl); (try clear hRf); omega) | omega)) (by exact fr_trans hf (fr_mono f2_ (fun x y h => Or.inr (by (first | ((try clear y); (try clear f2_); (try clear r2_); (try clear hμc); (try clear μc); (try clear hz9); (try clear ex9); (try clear c101_); (try clear hlf); (try clear hμ3); (try clear μ3); (try clear mb); (try clear hni); (try clear hs1); (try clear c88_); (try clear c79_); (try clear x6); (try clear x5); (try clear hqb); (try clear hrn); (try clear hrm); (try clear hm9); (try clear hA); (try clear hf); (try clear hi); (try clear hexit180); (try clear hE); (try clear hkc); (try clear h_n); (try clear hwc); (try clear hq18); (try clear hi9); (try clear hRs); (try clear hRc); (try clear hRl); (try clear hRf); omega) | omega))))) (by exact aB_fr hA (fun x y h => f2_ _ _ (by (first | ((try clear y); (try clear f2_); (try clear r2_); (try clear hμc); (try clear μc); (try clear hz9); (try clear ex9); (try clear c101_); (try clear hlf); (try clear hμ3); (try clear μ3); (try clear mb); (try clear hni); (try clear hs1); (try clear c88_); (try clear c79_); (try clear x6); (try clear x5); (try clear hqb); (try clear hrn); (try clear hrm); (try clear hm9); (try clear hA); (try clear hf); (try clear hi); (try clear hexit180); (try clear hE); (try clear hkc); (try clear h_n); (try clear hwc); (try clear hq18); (try clear hi9); (try clear hRs); (try clear hRc); (try clear hRl); (try clear hRf); omega) | omega)))) (by rw [f2_ _ _ (by (first | ((try clear f2_); (try clear r2_); (try clear hμc); (try clear μc); (try clear hz9); (try clear ex9); (try clear c101_); (try clear hlf); (try clear hμ3); (try clear μ3); (try clear mb); (try clear hni); (try clear hs1); (try clear c88_); (try clear c79_); (try clear x6); (try clear x5); (try clear hqb); (try clear hrn); (try clear hrm); (try clear hm9); (try clear hA); (try clear hf); (try clear hi); (try clear hexit180); (try clear hE); (try clear hkc); (try clear h_n); (try clear hwc); (try clear hq18); (try clear hi9); (try clear hb9); (try clear hRs); (try clear hRc); (try clear hRl); (try clear hRf); omega) | omega))]; exact hw9) (by (first | ((try clear f2_); (try clear r2_); (try clear hμc); (try clear μc); (try clear hz9); (try clear ex9); (try clear hμ3); (try clear hni); (try clear c88_); (try clear x6); (try clear x5); (try clear hrn); (try clear hA); (try clear hf); (try clear hexit180); (try clear hE); (try clear hkc); (try clear h_n); (try clear hwc); (try clear hq18); (try clear hi9); (try clear hb9); (try clear hRs); (try clear hRc); (try clear hRl); (try clear hRf); omega) | omega)) hP hS (lv_sub hl [0, 2, 1, 3, 4, 5, 6, 7, 8] rfl)
        · refine lv_iload hx hb dX8_walk_104 (lv_at hl 1 rfl) ?_
          refine lv_iload_n hx hb dX8_walk_106 rfl (lv_at hl 5 rfl) ?_
          refine fz_icmp_ge (tgt := 125) (by constructor <;> (first | ((try clear c101_); (try clear hlf); (try clear hμ3); (try clear μ3); (try clear hz9); (try clear mb); (try clear hni); (try clear hs1); (try clear c88_); (try clear c79_); (try clear x6); (try clear x5); (try clear hqb); (try clear hrn); (try clear hrm); (try clear hm9); (try clear hA); (try clear hf); (try clear hexit180); (try clear hE); (try clear hkc); (try clear hwc); (try clear hq18); (try clear hi9); (try clear hb9); (try clear hRs); (try clear hRc); (try clear hRl); (try clear hRf); omega) | omega)) (by constructor <;> (first | ((try clear c101_); (try clear hlf); (try clear hμ3); (try clear μ3); (try clear hz9); (try clear mb); (try clear hni); (try clear hs1); (try clear c88_); (try clear c79_); (try clear x6); (try clear x5); (try clear hqb); (try clear hrn); (try clear hrm); (try clear hm9); (try clear hA); (try clear hf); (try clear hi); (try clear hexit180); (try clear hE); (try clear hkc); (try clear hwc); (try clear hq18); (try clear hi9); (try clear hb9); (try clear hRs); (try clear hRc); (try clear hRl); (try clear hRf); omega) | omega)) hx hb dX8_walk_107 (by decide) (fun c107_ => ?_) (fun c107_ => ?_)
          · have y4 : μ (q + 4) i.toNat = μ (q + 4) i.toNat := by rfl
            refine lv_aload hx hb dX8_walk_125 (lv_at hl 4 rfl) ?_
            refine fz_get (D := (dC, dI)) (ci := 7) (v := .ref (h0 + (b + 12))) (C := RX7) (T := TX7) (N := 5) hx hb hts inG7 hown hK hP (k := (b + 10)) (by (first | ((try clear y4); (try clear c107_); (try clear c101_); (try clear hlf); (try clear hμ3); (try clear μ3); (try clear hz9); (try clear mb); (try clear hni); (try clear hs1); (try clear c88_); (try clear c79_); (try clear x6); (try clear x5); (try clear hqb); (try clear hrn); (try clear hrm); (try clear hm9); (try clear hA); (try clear hf); (try clear hi); (try clear hexit180); (try clear hE); (try clear hkc); (try clear h_n); (try clear hwc); (try clear hq18); (try clear hRs); (try clear hRc); (try clear hRl); (try clear hRf); omega) | omega)) (F := (sWF h0 b)) (sE_walk hi9 hb9) rfl 3 (by decide) (hts _ k280) (fun _ h9 => h9) rfl dX8_walk_127 ?_
            refine lv_aload_n hx hb dX8_walk_130 rfl (lv_at hl 7 rfl) ?_
            refine fz_get (D := (dC, dI)) (ci := 4) (v := .ref (h0 + (q + 4))) (C := RX4) (T := TX4) (N := 8) hx hb hts inG4 hown hK hP (k := q) (by (first | ((try clear y4); (try clear c107_); (try clear c101_); (try clear hlf); (try clear hμ3); (try clear μ3); (try clear hz9); (try clear mb); (try clear hni); (try clear hs1); (try clear c88_); (try clear c79_); (try clear x6); (try clear x5); (try clear hrn); (try clear hrm); (try clear hm9); (try clear hA); (try clear hf); (try clear hi); (try clear hexit180); (try clear hE); (try clear hkc); (try clear h_n); (try clear hwc); (try clear hi9); (try clear hb9); (try clear hRs); (try clear hRc); (try clear hRl); (try clear hRf); omega) | omega)) (F := (sRF h0 q)) (sE_rowO hq) rfl 3 (by decide) (hts _ k89) (fun _ h9 => h9) rfl dX8_walk_131 ?_
            refine lv_iload hx hb dX8_walk_134 (lv_at hl 2 rfl) ?_
            refine fz_ld (k := (q + 4)) (n := rm) hx hb hK hP 0 (by (first | ((try clear y4); (try clear c107_); (try clear c101_); (try clear hlf); (try clear hμ3); (try clear μ3); (try clear hz9); (try clear mb); (try clear hni); (try clear hs1); (try clear c88_); (try clear c79_); (try clear x6); (try clear x5); (try clear hrn); (try clear hrm); (try clear hm9); (try clear hA); (try clear hf); (try clear hi); (try clear hexit180); (try clear hE); (try clear hkc); (try clear h_n); (try clear hwc); (try clear hi9); (try clear hb9); (try clear hRs); (try clear hRc); (try clear hRl); (try clear hRf); omega) | omega)) (sE_rowA (r := 4) hq (by decide)) rfl ⟨by (first | ((try clear y4); (try clear c107_); (try clear c101_); (try clear hlf); (try clear hμ3); (try clear μ3); (try clear hz9); (try clear mb); (try clear hni); (try clear hs1); (try clear c88_); (try clear c79_); (try clear x6); (try clear x5); (try clear hqb); (try clear hrn); (try clear hrm); (try clear hm9); (try clear hA); (try clear hf); (try clear hexit180); (try clear hE); (try clear hkc); (try clear h_n); (try clear hwc); (try clear hq18); (try clear hi9); (try clear hb9); (try clear hRs); (try clear hRc); (try clear hRl); (try clear hRf); omega) | omega), by (first | ((try clear y4); (try clear c107_); (try clear c101_); (try clear hlf); (try clear hμ3); (try clear μ3); (try clear hz9); (try clear mb); (try clear hni); (try clear hs1); (try clear c79_); (try clear x6); (try clear hqb); (try clear hrn); (try clear hm9); (try clear hA); (try clear hf); (try clear hi); (try clear hexit180); (try clear hE); (try clear hkc); (try clear h_n); (try clear hwc); (try clear hq18); (try clear hi9); (try clear hb9); (try clear hRs); (try clear hRc); (try clear hRl); (try clear hRf); omega) | omega)⟩ (by (first | ((try clear y4); (try clear c107_); (try clear hμ3); (try clear hz9); (try clear hni); (try clear hs1); (try clear c88_); (try clear c79_); (try clear x6); (try clear x5); (try clear hrn); (try clear hrm); (try clear hm9); (try clear hA); (try clear hf); (try clear hi); (try clear hexit180); (try clear hE); (try clear hkc); (try clear h_n); (try clear hwc); (try clear hq18); (try clear hi9); (try clear hb9); (try clear hRs); (try clear hRc); (try clear hRl); (try clear hRf); omega) | omega)) dX8_walk_136 ?_
            refine lv_dup2_11 hx hb dX8_walk_137 rfl rfl ?_
            refine fz_ld (k := (b + 12)) (n := 1100) hx hb hK hP 0 (by (first | ((try clear y4); (try clear c107_); (try clear c101_); (try clear hlf); (try clear hμ3); (try clear μ3); (try clear hz9); (try clear mb); (try clear hni); (try clear hs1); (try clear c88_); (try clear c79_); (try clear x6); (try clear x5); (try clear hqb); (try clear hrn); (try clear hrm); (try clear hm9); (try clear hA); (try clear hf); (try clear hi); (try clear hexit180); (try clear hE); (try clear hkc); (try clear h_n); (try clear hwc); (try clear hq18); (try clear hRs); (try clear hRc); (try clear hRl); (try clear hRf); omega) | omega)) (sE_leafA 12 1100 hi9 hb9 (by decide)) rfl ⟨by (first | ((try clear y4); (try clear c107_); (try clear c101_); (try clear hlf); (try clear hμ3); (try clear μ3); (try clear hz9); (try clear mb); (try clear hs1); (try clear c88_); (try clear c79_); (try clear x6); (try clear x5); (try clear hqb); (try clear hrn); (try clear hrm); (try clear hm9); (try clear hA); (try clear hf); (try clear hi); (try clear hexit180); (try clear hE); (try clear hkc); (try clear h_n); (try clear hwc); (try clear hq18); (try clear hi9); (try clear hb9); (try clear hRs); (try clear hRc); (try clear hRl); (try clear hRf); omega) | omega), by (first | ((try clear y4); (try clear c107_); (try clear hμ3); (try clear hz9); (try clear hs1); (try clear c79_); (try clear x6); (try clear hrn); (try clear hm9); (try clear hA); (try clear hf); (try clear hexit180); (try clear hE); (try clear hkc); (try clear h_n); (try clear hwc); (try clear hq18); (try clear hi9); (try clear hb9); (try clear hRs); (try clear hRc); (try clear hRl); (try clear hRf); omega) | omega)⟩ (by decide) dX8_walk_138 ?_
            refine lv_iconst (v := iZ 1) hx hb dX8_walk_139 rfl ?_
            refine lv_iadd hx hb dX8_walk_140 ?_
            refine lv_topi (fun x9 ex9 => ?_)
            obtain rfl : x9 = iZ ((μ (b + 12) (μ (q + 4) (i).toNat).toNat) + 1) := ex9.trans (iZ_add _ _)
            refine fz_st (k := (b + 12)) (n := 1100) (i := (μ (q + 4) (i).toNat)) (z := ((μ (b + 12) (μ (q + 4) (i).toNat).toNat) + 1)) hx hb hK hP fA_in hS 0 (by (first | ((try clear ex9); (try clear y4); (try clear c107_); (try clear c101_); (try clear hlf); (try clear hμ3); (try clear μ3); (try clear hz9); (try clear mb); (try clear hni); (try clear hs1); (try clear c88_); (try clear c79_); (try clear x6); (try clear x5); (try clear hqb); (try clear hrn); (try clear hrm); (try clear hm9); (try clear hA); (try clear hf); (try clear hi); (try clear hexit180); (try clear hE); (try clear hkc); (try clear h_n); (try clear hwc); (try clear hq18); (try clear hRs); (try clear hRc); (try clear hRl); (try clear hRf); omega) | omega)) (sE_leafA 12 1100 hi9 hb9 (by decide)) rfl ⟨by (first | ((try clear ex9); (try clear y4); (try clear c107_); (try clear c101_); (try clear hlf); (try clear hμ3); (try clear μ3); (try clear hz9); (try clear mb); (try clear hs1); (try clear c88_); (try clear c79_); (try clear x6); (try clear x5); (try clear hqb); (try clear hrn); (try clear hrm); (try clear hm9); (try clear hA); (try clear hf); (try clear hi); (try clear hexit180); (try clear hE); (try clear hkc); (try clear h_n); (try clear hwc); (try clear hq18); (try clear hi9); (try clear hb9); (try clear hRs); (try clear hRc); (try clear hRl); (try clear hRf); omega) | omega), by (first | ((try clear ex9); (try clear y4); (try clear c107_); (try clear hμ3); (try clear hz9); (try clear hs1); (try clear c79_); (try clear x6); (try clear hrn); (try clear hm9); (try clear hA); (try clear hf); (try clear hexit180); (try clear hE); (try clear hkc); (try clear h_n); (try clear hwc); (try clear hq18); (try clear hi9); (try clear hb9); (try clear hRs); (try clear hRc); (try clear hRl); (try clear hRf); omega) | omega)⟩ (by decide) dX8_walk_141 (fun H locs hP hS => ?_)
            obtain ⟨μ5, eμ5⟩ : ∃ x : va_M, x = uz μ (b + 12) (μ (q + 4) (i).toNat).toNat ((μ (b + 12) (μ (q + 4) (i).toNat).toNat) + 1) := ⟨_, rfl⟩
            rw [← eμ5] at hP
            refine lv_iload hx hb dX8_walk_142 (lv_at hl 1 rfl) ?_
            refine lv_iconst (v := iZ 1) hx hb dX8_walk_144 rfl ?_
            refine lv_iadd hx hb dX8_walk_145 ?_
            refine lv_topi (fun x9 ex9 => ?_)
            obtain rfl : x9 = iZ (k + 1) := ex9.trans (iZ_add _ _)
            refine lv_iload_n hx hb dX8_walk_146 rfl (lv_at hl 5 rfl) ?_
            refine va_mmin hx hb (hml.trans hl.1.symm) hown (hts _ k562) (hts _ k501) (hts _ k4) (hts _ k502) (Nat.le_trans (Nat.le_of_ble_eq_true rfl) hRf) (Nat.le_trans (m := 113) (Nat.le_of_ble_eq_true rfl) hRl) hRc hRs dX8_walk_147 ?_
            refine lv_topi (fun x9 ex9 => ?_)
            obtain rfl : x9 = iZ (min (k + 1) n) := ex9.trans (iZ_mn (by constructor <;> (first | ((try clear ex9); (try clear x); (try clear eμ5); (try clear μ5); (try clear y4); (try clear c101_); (try clear hlf); (try clear hμ3); (try clear μ3); (try clear hz9); (try clear mb); (try clear hni); (try clear hs1); (try clear c88_); (try clear c79_); (try clear x6); (try clear x5); (try clear hqb); (try clear hrn); (try clear hrm); (try clear hm9); (try clear hA); (try clear hf); (try clear hexit180); (try clear hE); (try clear hkc); (try clear hwc); (try clear hq18); (try clear hi9); (try clear hb9); (try clear hRs); (try clear hRc); (try clear hRl); (try clear hRf); omega) | omega)) (by constructor <;> (first | ((try clear ex9); (try clear x); (try clear eμ5); (try clear μ5); (try clear y4); (try clear c101_); (try clear hlf); (try clear hμ3); (try clear μ3); (try clear hz9); (try clear mb); (try clear hni); (try clear hs1); (try clear c88_); (try clear c79_); (try clear x6); (try clear x5); (try clear hqb); (try clear hrn); (try clear hrm); (try clear hm9); (try clear hA); (try clear hf); (try clear hexit180); (try clear hE); (try clear hkc); (try clear hwc); (try clear hq18); (try clear hi9); (try clear hb9); (try clear hRs); (try clear hRc); (try clear hRl); (try clear hRf); omega) | omega)))
            refine lv_istore (lv' := [(7, .int (iZ (min (k + 1) n))), (8, .int (iZ (tu))), (6, .int (iZ (i))), (5, .int (iZ (μ0 q 5 + 1))), (4, .ref (h0 + (b + 10))), (3, .int (iZ (n))), (2, .ref (h0 + kc)), (1, .ref (h0 + q)), (0, .ref (h0 + 45))]) hx hb dX8_walk_150 hl (by decide) rfl (fun ls hl => ?_)
            refine lv_iinc (v := iZ (i + 1)) (lv' := [(6, .int (iZ (i + 1))), (7, .int (iZ (min (k + 1) n))), (8, .int (iZ (tu))), (5, .int (iZ (μ0 q 5 + 1))), (4, .ref (h0 + (b + 10))), (3, .int (iZ (n))), (2, .ref (h0 + kc)), (1, .ref (h0 + q)), (0, .ref (h0 + 45))]) hx hb dX8_walk_152 hl (k := 2) rfl (iZ_add _ _) (by decide) rfl (fun ls hl => ?_)
            refine lv_goto (tgt := 174) hx hb dX8_walk_155 (by decide) ?_
            refine lv_iinc (v := iZ (tu + 1)) (lv' := [(8, .int (iZ (tu + 1))), (6, .int (iZ (i + 1))), (7, .int (iZ (min (k + 1) n))), (5, .int (iZ (μ0 q 5 + 1))), (4, .ref (h0 + (b + 10))), (3, .int (iZ (n))), (2, .ref (h0 + kc)), (1, .ref (h0 + q)), (0, .ref (h0 + 45))]) hx hb dX8_walk_174 hl (k := 2) rfl (iZ_add _ _) (by decide) rfl (fun ls hl => ?_)
            refine lv_goto (tgt := 75) hx hb dX8_walk_177 (by decide) ?_
            exact ih (i + 1) (min (k + 1) n) (tu + 1) μ5 H locs ls (by (first | ((try clear ex9); (try clear x); (try clear eμ5); (try clear μ5); (try clear y4); (try clear c101_); (try clear hlf); (try clear hμ3); (try clear μ3); (try clear hz9); (try clear mb); (try clear hni); (try clear hs1); (try clear x6); (try clear hqb); (try clear hrn); (try clear hrm); (try clear hm9); (try clear hA); (try clear hf); (try clear hexit180); (try clear hE); (try clear hkc); (try clear hwc); (try clear hq18); (try clear hi9); (try clear hb9); (try clear hRs); (try clear hRc); (try clear hRl); (try clear hRf); omega) | omega)) (by rw [eμ5]; exact fr_uz (hf) (Or.inr (by (first | ((try clear ex9); (try clear x); (try clear eμ5); (try clear μ5); (try clear y4); (try clear c107_); (try clear c101_); (try clear hlf); (try clear hμ3); (try clear μ3); (try clear hz9); (try clear mb); (try clear hni); (try clear hs1); (try clear c88_); (try clear c79_); (try clear x6); (try clear x5); (try clear hqb); (try clear hrn); (try clear hrm); (try clear hm9); (try clear hA); (try clear hf); (try clear hi); (try clear hexit180); (try clear hE); (try clear hkc); (try clear h_n); (try clear hwc); (try clear hq18); (try clear hi9); (try clear hb9); (try clear hRs); (try clear hRc); (try clear hRl); (try clear hRf); omega) | omega)))) (by rw [eμ5]; exact aB_uz (hA) (fun _ => by (first | ((try clear ex9); (try clear x); (try clear eμ5); (try clear μ5); (try clear y4); (try clear c107_); (try clear c101_); (try clear hlf); (try clear hμ3); (try clear μ3); (try clear hz9); (try clear mb); (try clear hni); (try clear hs1); (try clear c88_); (try clear c79_); (try clear x6); (try clear x5); (try clear hqb); (try clear hrn); (try clear hrm); (try clear hm9); (try clear hA); (try clear hf); (try clear hi); (try clear hexit180); (try clear hE); (try clear hkc); (try clear h_n); (try clear hwc); (try clear hq18); (try clear hRs); (try clear hRc); (try clear hRl); (try clear hRf); omega) | omega))) (by
                                rw [eμ5]
                                repeat rw [uz_n (by (first | ((try clear ex9); (try clear x); (try clear eμ5); (try clear μ5); (try clear y4); (try clear c107_); (try clear c101_); (try clear hlf); (try clear hμ3); (try clear μ3); (try clear hz9); (try clear mb); (try clear hni); (try clear hs1); (try clear c88_); (try clear c79_); (try clear x6); (try clear x5); (try clear hqb); (try clear hrn); (try clear hrm); (try clear hm9); (try clear hA); (try clear hf); (try clear hi); (try clear hexit180); (try clear hE); (try clear hkc); (try clear h_n); (try clear hwc); (try clear hq18); (try clear hi9); (try clear hb9); (try clear hRs); (try clear hRc); (try clear hRl); (try clear hRf); omega) | omega))]
                                exact hw9) (by (first | ((try clear ex9); (try clear x); (try clear eμ5); (try clear μ5); (try clear y4); (try clear c107_); (try clear hμ3); (try clear hz9); (try clear hni); (try clear hs1); (try clear c88_); (try clear x6); (try clear x5); (try clear hrn); (try clear hA); (try clear hf); (try clear hexit180); (try clear hE); (try clear hkc); (try clear h_n); (try clear hwc); (try clear hq18); (try clear hi9); (try clear hb9); (try clear hRs); (try clear hRc); (try clear hRl); (try clear hRf); omega) | omega)) hP hS (lv_sub hl [0, 2, 1, 3, 4, 5, 6, 7, 8] rfl)
          · refine lv_aload hx hb dX8_walk_110 (lv_at hl 4 rfl) ?_
            refine fz_get (D := (dC, dI)) (ci := 7) (v := .ref (h0 + (b + 11))) (C := RX7) (T := TX7) (N := 5) hx hb hts inG7 hown hK hP (k := (b + 10)) (by (first | ((try clear c107_); (try clear c101_); (try clear hlf); (try clear hμ3); (try clear μ3); (try clear hz9); (try clear mb); (try clear hni); (try clear hs1); (try clear c88_); (try clear c79_); (try clear x6); (try clear x5); (try clear hqb); (try clear hrn); (try clear hrm); (try clear hm9); (try clear hA); (try clear hf); (try clear hi); (try clear hexit180); (try clear hE); (try clear hkc); (try clear h_n); (try clear hwc); (try clear hq18); (try clear hRs); (try clear hRc); (try clear hRl); (try clear hRf); omega) | omega)) (F := (sWF h0 b)) (sE_walk hi9 hb9) rfl 2 (by decide) (hts _ k277) (fun _ h9 => h9) rfl dX8_walk_112 ?_
            refine lv_iload hx hb dX8_walk_115 (lv_at hl 1 rfl) ?_
            refine lv_aload_n hx hb dX8_walk_117 rfl (lv_at hl 7 rfl) ?_
            refine fz_get (D := (dC, dI)) (ci := 4) (v := .ref (h0 + (q + 4))) (C := RX4) (T := TX4) (N := 8) hx hb hts inG4 hown hK hP (k := q) (by (first | ((try clear c107_); (try clear c101_); (try clear hlf); (try clear hμ3); (try clear μ3); (try clear hz9); (try clear mb); (try clear hni); (try clear hs1); (try clear c88_); (try clear c79_); (try clear x6); (try clear x5); (try clear hrn); (try clear hrm); (try clear hm9); (try clear hA); (try clear hf); (try clear hi); (try clear hexit180); (try clear hE); (try clear hkc); (try clear h_n); (try clear hwc); (try clear hi9); (try clear hb9); (try clear hRs); (try clear hRc); (try clear hRl); (try clear hRf); omega) | omega)) (F := (sRF h0 q)) (sE_rowO hq) rfl 3 (by decide) (hts _ k89) (fun _ h9 => h9) rfl dX8_walk_118 ?_
            refine lv_iload hx hb dX8_walk_121 (lv_at hl 2 rfl) ?_
            refine fz_ld (k := (q + 4)) (n := rm) hx hb hK hP 0 (by (first | ((try clear c107_); (try clear c101_); (try clear hlf); (try clear hμ3); (try clear μ3); (try clear hz9); (try clear mb); (try clear hni); (try clear hs1); (try clear c88_); (try clear c79_); (try clear x6); (try clear x5); (try clear hrn); (try clear hrm); (try clear hm9); (try clear hA); (try clear hf); (try clear hi); (try clear hexit180); (try clear hE); (try clear hkc); (try clear h_n); (try clear hwc); (try clear hi9); (try clear hb9); (try clear hRs); (try clear hRc); (try clear hRl); (try clear hRf); omega) | omega)) (sE_rowA (r := 4) hq (by decide)) rfl ⟨by (first | ((try clear c107_); (try clear c101_); (try clear hlf); (try clear hμ3); (try clear μ3); (try clear hz9); (try clear mb); (try clear hni); (try clear hs1); (try clear c88_); (try clear c79_); (try clear x6); (try clear x5); (try clear hqb); (try clear hrn); (try clear hrm); (try clear hm9); (try clear hA); (try clear hf); (try clear hexit180); (try clear hE); (try clear hkc); (try clear h_n); (try clear hwc); (try clear hq18); (try clear hi9); (try clear hb9); (try clear hRs); (try clear hRc); (try clear hRl); (try clear hRf); omega) | omega), by (first | ((try clear c107_); (try clear c101_); (try clear hlf); (try clear hμ3); (try clear μ3); (try clear hz9); (try clear mb); (try clear hni); (try clear hs1); (try clear c79_); (try clear x6); (try clear hqb); (try clear hrn); (try clear hm9); (try clear hA); (try clear hf); (try clear hi); (try clear hexit180); (try clear hE); (try clear hkc); (try clear h_n); (try clear hwc); (try clear hq18); (try clear hi9); (try clear hb9); (try clear hRs); (try clear hRc); (try clear hRl); (try clear hRf); omega) | omega)⟩ (by (first | ((try clear hμ3); (try clear hz9); (try clear hni); (try clear hs1); (try clear c88_); (try clear c79_); (try clear x6); (try clear x5); (try clear hrn); (try clear hrm); (try clear hm9); (try clear hA); (try clear hf); (try clear hi); (try clear hexit180); (try clear hE); (try clear hkc); (try clear hwc); (try clear hq18); (try clear hi9); (try clear hb9); (try clear hRs); (try clear hRc); (try clear hRl); (try clear hRf); omega) | omega)) dX8_walk_123 ?_
            refine fz_st (k := (b + 11)) (n := 60) (i := k) (z := (μ (q + 4) (i).toNat)) hx hb hK hP fA_in hS 0 (by (first | ((try clear c107_); (try clear c101_); (try clear hlf); (try clear hμ3); (try clear μ3); (try clear hz9); (try clear mb); (try clear hni); (try clear hs1); (try clear c88_); (try clear c79_); (try clear x6); (try clear x5); (try clear hqb); (try clear hrn); (try clear hrm); (try clear hm9); (try clear hA); (try clear hf); (try clear hi); (try clear hexit180); (try clear hE); (try clear hkc); (try clear h_n); (try clear hwc); (try clear hq18); (try clear hRs); (try clear hRc); (try clear hRl); (try clear hRf); omega) | omega)) (sE_leafA 11 60 hi9 hb9 (by decide)) rfl ⟨by (first | ((try clear c107_); (try clear c101_); (try clear hlf); (try clear hμ3); (try clear μ3); (try clear hz9); (try clear mb); (try clear hni); (try clear hs1); (try clear c88_); (try clear c79_); (try clear x6); (try clear x5); (try clear hqb); (try clear hrn); (try clear hrm); (try clear hm9); (try clear hA); (try clear hf); (try clear hexit180); (try clear hE); (try clear hkc); (try clear h_n); (try clear hwc); (try clear hq18); (try clear hi9); (try clear hb9); (try clear hRs); (try clear hRc); (try clear hRl); (try clear hRf); omega) | omega), by (first | ((try clear c101_); (try clear hlf); (try clear hμ3); (try clear μ3); (try clear hz9); (try clear mb); (try clear hni); (try clear hs1); (try clear c88_); (try clear c79_); (try clear x6); (try clear x5); (try clear hqb); (try clear hrn); (try clear hrm); (try clear hm9); (try clear hA); (try clear hf); (try clear hi); (try clear hexit180); (try clear hE); (try clear hkc); (try clear hwc); (try clear hq18); (try clear hi9); (try clear hb9); (try clear hRs); (try clear hRc); (try clear hRl); (try clear hRf); omega) | omega)⟩ (by decide) dX8_walk_124 (fun H locs hP hS => ?_)
            obtain ⟨μ6, eμ6⟩ : ∃ x : va_M, x = uz μ (b + 11) (k).toNat (μ (q + 4) (i).toNat) := ⟨_, rfl⟩
            rw [← eμ6] at hP
            have y4 : μ6 (q + 4) i.toNat = μ (q + 4) i.toNat := by rw [eμ6, uz_n (by (first | ((try clear y4); (try clear x); (try clear eμ6); (try clear μ6); (try clear c107_); (try clear c101_); (try clear hlf); (try clear hμ3); (try clear μ3); (try clear hz9); (try clear mb); (try clear hni); (try clear hs1); (try clear c88_); (try clear c79_); (try clear x6); (try clear x5); (try clear hrn); (try clear hrm); (try clear hm9); (try clear hA); (try clear hf); (try clear hi); (try clear hexit180); (try clear hE); (try clear hkc); (try clear h_n); (try clear hwc); (try clear hi9); (try clear hRs); (try clear hRc); (try clear hRl); (try clear hRf); omega) | omega))]
            refine lv_aload hx hb dX8_walk_125 (lv_at hl 4 rfl) ?_
            refine fz_get (D := (dC, dI)) (ci := 7) (v := .ref (h0 + (b + 12))) (C := RX7) (T := TX7) (N := 5) hx hb hts inG7 hown hK hP (k := (b + 10)) (by (first | ((try clear y4); (try clear x); (try clear eμ6); (try clear c107_); (try clear c101_); (try clear hlf); (try clear hμ3); (try clear μ3); (try clear hz9); (try clear mb); (try clear hni); (try clear hs1); (try clear c88_); (try clear c79_); (try clear x6); (try clear x5); (try clear hqb); (try clear hrn); (try clear hrm); (try clear hm9); (try clear hA); (try clear hf); (try clear hi); (try clear hexit180); (try clear hE); (try clear hkc); (try clear h_n); (try clear hwc); (try clear hq18); (try clear hRs); (try clear hRc); (try clear hRl); (try clear hRf); omega) | omega)) (F := (sWF h0 b)) (sE_walk hi9 hb9) rfl 3 (by decide) (hts _ k280) (fun _ h9 => h9) rfl dX8_walk_127 ?_
            refine lv_aload_n hx hb dX8_walk_130 rfl (lv_at hl 7 rfl) ?_
            refine fz_get (D := (dC, dI)) (ci := 4) (v := .ref (h0 + (q + 4))) (C := RX4) (T := TX4) (N := 8) hx hb hts inG4 hown hK hP (k := q) (by (first | ((try clear y4); (try clear x); (try clear eμ6); (try clear c107_); (try clear c101_); (try clear hlf); (try clear hμ3); (try clear μ3); (try clear hz9); (try clear mb); (try clear hni); (try clear hs1); (try clear c88_); (try clear c79_); (try clear x6); (try clear x5); (try clear hrn); (try clear hrm); (try clear hm9); (try clear hA); (try clear hf); (try clear hi); (try clear hexit180); (try clear hE); (try clear hkc); (try clear h_n); (try clear hwc); (try clear hi9); (try clear hb9); (try clear hRs); (try clear hRc); (try clear hRl); (try clear hRf); omega) | omega)) (F := (sRF h0 q)) (sE_rowO hq) rfl 3 (by decide) (hts _ k89) (fun _ h9 => h9) rfl dX8_walk_131 ?_
            refine lv_iload hx hb dX8_walk_134 (lv_at hl 2 rfl) ?_
            refine fz_ld (k := (q + 4)) (n := rm) hx hb hK hP 0 (by (first | ((try clear y4); (try clear x); (try clear eμ6); (try clear c107_); (try clear c101_); (try clear hlf); (try clear hμ3); (try clear μ3); (try clear hz9); (try clear mb); (try clear hni); (try clear hs1); (try clear c88_); (try clear c79_); (try clear x6); (try clear x5); (try clear hrn); (try clear hrm); (try clear hm9); (try clear hA); (try clear hf); (try clear hi); (try clear hexit180); (try clear hE); (try clear hkc); (try clear h_n); (try clear hwc); (try clear hi9); (try clear hb9); (try clear hRs); (try clear hRc); (try clear hRl); (try clear hRf); omega) | omega)) (sE_rowA (r := 4) hq (by decide)) rfl ⟨by (first | ((try clear y4); (try clear x); (try clear eμ6); (try clear c107_); (try clear c101_); (try clear hlf); (try clear hμ3); (try clear μ3); (try clear hz9); (try clear mb); (try clear hni); (try clear hs1); (try clear c88_); (try clear c79_); (try clear x6); (try clear x5); (try clear hqb); (try clear hrn); (try clear hrm); (try clear hm9); (try clear hA); (try clear hf); (try clear hexit180); (try clear hE); (try clear hkc); (try clear h_n); (try clear hwc); (try clear hq18); (try clear hi9); (try clear hb9); (try clear hRs); (try clear hRc); (try clear hRl); (try clear hRf); omega) | omega), by (first | ((try clear y4); (try clear x); (try clear eμ6); (try clear c107_); (try clear c101_); (try clear hlf); (try clear hμ3); (try clear μ3); (try clear hz9); (try clear mb); (try clear hni); (try clear hs1); (try clear c79_); (try clear x6); (try clear hqb); (try clear hrn); (try clear hm9); (try clear hA); (try clear hf); (try clear hi); (try clear hexit180); (try clear hE); (try clear hkc); (try clear h_n); (try clear hwc); (try clear hq18); (try clear hi9); (try clear hb9); (try clear hRs); (try clear hRc); (try clear hRl); (try clear hRf); omega) | omega)⟩ (by (first | ((try clear y4); (try clear x); (try clear eμ6); (try clear hμ3); (try clear hz9); (try clear hni); (try clear hs1); (try clear c88_); (try clear c79_); (try clear x6); (try clear x5); (try clear hrn); (try clear hrm); (try clear hm9); (try clear hA); (try clear hf); (try clear hi); (try clear hexit180); (try clear hE); (try clear hkc); (try clear hwc); (try clear hq18); (try clear hi9); (try clear hb9); (try clear hRs); (try clear hRc); (try clear hRl); (try clear hRf); omega) | omega)) dX8_walk_136 ?_
            refine lv_dup2_11 hx hb dX8_walk_137 rfl rfl ?_
            refine fz_ld (k := (b + 12)) (n := 1100) hx hb hK hP 0 (by (first | ((try clear y4); (try clear x); (try clear eμ6); (try clear c107_); (try clear c101_); (try clear hlf); (try clear hμ3); (try clear μ3); (try clear hz9); (try clear mb); (try clear hni); (try clear hs1); (try clear c88_); (try clear c79_); (try clear x6); (try clear x5); (try clear hqb); (try clear hrn); (try clear hrm); (try clear hm9); (try clear hA); (try clear hf); (try clear hi); (try clear hexit180); (try clear hE); (try clear hkc); (try clear h_n); (try clear hwc); (try clear hq18); (try clear hRs); (try clear hRc); (try clear hRl); (try clear hRf); omega) | omega)) (sE_leafA 12 1100 hi9 hb9 (by decide)) rfl ⟨by (first | ((try clear x); (try clear eμ6); (try clear c107_); (try clear c101_); (try clear hlf); (try clear hμ3); (try clear μ3); (try clear hz9); (try clear mb); (try clear hs1); (try clear c88_); (try clear c79_); (try clear x6); (try clear x5); (try clear hqb); (try clear hrn); (try clear hrm); (try clear hm9); (try clear hA); (try clear hf); (try clear hi); (try clear hexit180); (try clear hE); (try clear hkc); (try clear h_n); (try clear hwc); (try clear hq18); (try clear hi9); (try clear hb9); (try clear hRs); (try clear hRc); (try clear hRl); (try clear hRf); omega) | omega), by (first | ((try clear x); (try clear eμ6); (try clear hμ3); (try clear hz9); (try clear hs1); (try clear c79_); (try clear x6); (try clear hrn); (try clear hm9); (try clear hA); (try clear hf); (try clear hexit180); (try clear hE); (try clear hkc); (try clear hwc); (try clear hq18); (try clear hi9); (try clear hb9); (try clear hRs); (try clear hRc); (try clear hRl); (try clear hRf); omega) | omega)⟩ (by decide) dX8_walk_138 ?_
            rw [show μ6 (b + 12) (μ6 (q + 4) (i).toNat).toNat = μ (b + 12) (μ6 (q + 4) (i).toNat).toNat from by rw [eμ6, uz_n (by (first | ((try clear y4); (try clear x); (try clear eμ6); (try clear c107_); (try clear c101_); (try clear hlf); (try clear hμ3); (try clear μ3); (try clear hz9); (try clear mb); (try clear hni); (try clear hs1); (try clear c88_); (try clear c79_); (try clear x6); (try clear x5); (try clear hqb); (try clear hrn); (try clear hrm); (try clear hm9); (try clear hA); (try clear hf); (try clear hi); (try clear hexit180); (try clear hE); (try clear hkc); (try clear h_n); (try clear hwc); (try clear hq18); (try clear hi9); (try clear hb9); (try clear hRs); (try clear hRc); (try clear hRl); (try clear hRf); omega) | omega))]]
            refine lv_iconst (v := iZ 1) hx hb dX8_walk_139 rfl ?_
            refine lv_iadd hx hb dX8_walk_140 ?_
            refine lv_topi (fun x9 ex9 => ?_)
            obtain rfl : x9 = iZ ((μ (b + 12) (μ6 (q + 4) (i).toNat).toNat) + 1) := ex9.trans (iZ_add _ _)
            refine fz_st (k := (b + 12)) (n := 1100) (i := (μ6 (q + 4) (i).toNat)) (z := ((μ (b + 12) (μ6 (q + 4) (i).toNat).toNat) + 1)) hx hb hK hP fA_in hS 0 (by (first | ((try clear ex9); (try clear y4); (try clear x); (try clear eμ6); (try clear c107_); (try clear c101_); (try clear hlf); (try clear hμ3); (try clear μ3); (try clear hz9); (try clear mb); (try clear hni); (try clear hs1); (try clear c88_); (try clear c79_); (try clear x6); (try clear x5); (try clear hqb); (try clear hrn); (try clear hrm); (try clear hm9); (try clear hA); (try clear hf); (try clear hi); (try clear hexit180); (try clear hE); (try clear hkc); (try clear h_n); (try clear hwc); (try clear hq18); (try clear hRs); (try clear hRc); (try clear hRl); (try clear hRf); omega) | omega)) (sE_leafA 12 1100 hi9 hb9 (by decide)) rfl ⟨by (first | ((try clear ex9); (try clear x); (try clear eμ6); (try clear c107_); (try clear c101_); (try clear hlf); (try clear hμ3); (try clear μ3); (try clear hz9); (try clear mb); (try clear hs1); (try clear c88_); (try clear c79_); (try clear x6); (try clear x5); (try clear hqb); (try clear hrn); (try clear hrm); (try clear hm9); (try clear hA); (try clear hf); (try clear hi); (try clear hexit180); (try clear hE); (try clear hkc); (try clear h_n); (try clear hwc); (try clear hq18); (try clear hi9); (try clear hb9); (try clear hRs); (try clear hRc); (try clear hRl); (try clear hRf); omega) | omega), by (first | ((try clear ex9); (try clear x); (try clear eμ6); (try clear hμ3); (try clear hz9); (try clear hs1); (try clear c79_); (try clear x6); (try clear hrn); (try clear hm9); (try clear hA); (try clear hf); (try clear hexit180); (try clear hE); (try clear hkc); (try clear hwc); (try clear hq18); (try clear hi9); (try clear hb9); (try clear hRs); (try clear hRc); (try clear hRl); (try clear hRf); omega) | omega)⟩ (by decide) dX8_walk_141 (fun H locs hP hS => ?_)
            obtain ⟨μ7, eμ7⟩ : ∃ x : va_M, x = uz μ6 (b + 12) (μ6 (q + 4) (i).toNat).toNat ((μ (b + 12) (μ6 (q + 4) (i).toNat).toNat) + 1) := ⟨_, rfl⟩
            rw [← eμ7] at hP
            refine lv_iload hx hb dX8_walk_142 (lv_at hl 1 rfl) ?_
            refine lv_iconst (v := iZ 1) hx hb dX8_walk_144 rfl ?_
            refine lv_iadd hx hb dX8_walk_145 ?_
            refine lv_topi (fun x9 ex9 => ?_)
            obtain rfl : x9 = iZ (k + 1) := ex9.trans (iZ_add _ _)
            refine lv_iload_n hx hb dX8_walk_146 rfl (lv_at hl 5 rfl) ?_
            refine va_mmin hx hb (hml.trans hl.1.symm) hown (hts _ k562) (hts _ k501) (hts _ k4) (hts _ k502) (Nat.le_trans (Nat.le_of_ble_eq_true rfl) hRf) (Nat.le_trans (m := 113) (Nat.le_of_ble_eq_true rfl) hRl) hRc hRs dX8_walk_147 ?_
            refine lv_topi (fun x9 ex9 => ?_)
            obtain rfl : x9 = iZ (min (k + 1) n) := ex9.trans (iZ_mn (by constructor <;> (first | ((try clear ex9); (try clear x); (try clear eμ7); (try clear μ7); (try clear y4); (try clear eμ6); (try clear c101_); (try clear hlf); (try clear hμ3); (try clear μ3); (try clear hz9); (try clear mb); (try clear hni); (try clear hs1); (try clear c88_); (try clear c79_); (try clear x6); (try clear x5); (try clear hqb); (try clear hrn); (try clear hrm); (try clear hm9); (try clear hA); (try clear hf); (try clear hexit180); (try clear hE); (try clear hkc); (try clear hwc); (try clear hq18); (try clear hi9); (try clear hb9); (try clear hRs); (try clear hRc); (try clear hRl); (try clear hRf); omega) | omega)) (by constructor <;> (first | ((try clear ex9); (try clear x); (try clear eμ7); (try clear μ7); (try clear y4); (try clear eμ6); (try clear c107_); (try clear c101_); (try clear hlf); (try clear hμ3); (try clear μ3); (try clear hz9); (try clear mb); (try clear hni); (try clear hs1); (try clear c88_); (try clear c79_); (try clear x6); (try clear x5); (try clear hqb); (try clear hrn); (try clear hrm); (try clear hm9); (try clear hA); (try clear hf); (try clear hi); (try clear hexit180); (try clear hE); (try clear hkc); (try clear hwc); (try clear hq18); (try clear hi9); (try clear hb9); (try clear hRs); (try clear hRc); (try clear hRl); (try clear hRf); omega) | omega)))
            refine lv_istore (lv' := [(7, .int (iZ (min (k + 1) n))), (8, .int (iZ (tu))), (6, .int (iZ (i))), (5, .int (iZ (μ0 q 5 + 1))), (4, .ref (h0 + (b + 10))), (3, .int (iZ (n))), (2, .ref (h0 + kc)), (1, .ref (h0 + q)), (0, .ref (h0 + 45))]) hx hb dX8_walk_150 hl (by decide) rfl (fun ls hl => ?_)
            refine lv_iinc (v := iZ (i + 1)) (lv' := [(6, .int (iZ (i + 1))), (7, .int (iZ (min (k + 1) n))), (8, .int (iZ (tu))), (5, .int (iZ (μ0 q 5 + 1))), (4, .ref (h0 + (b + 10))), (3, .int (iZ (n))), (2, .ref (h0 + kc)), (1, .ref (h0 + q)), (0, .ref (h0 + 45))]) hx hb dX8_walk_152 hl (k := 2) rfl (iZ_add _ _) (by decide) rfl (fun ls hl => ?_)
            refine lv_goto (tgt := 174) hx hb dX8_walk_155 (by decide) ?_
            refine lv_iinc (v := iZ (tu + 1)) (lv' := [(8, .int (iZ (tu + 1))), (6, .int (iZ (i + 1))), (7, .int (iZ (min (k + 1) n))), (5, .int (iZ (μ0 q 5 + 1))), (4, .ref (h0 + (b + 10))), (3, .int (iZ (n))), (2, .ref (h0 + kc)), (1, .ref (h0 + q)), (0, .ref (h0 + 45))]) hx hb dX8_walk_174 hl (k := 2) rfl (iZ_add _ _) (by decide) rfl (fun ls hl => ?_)
            refine lv_goto (tgt := 75) hx hb dX8_walk_177 (by decide) ?_
            exact ih (i + 1) (min (k + 1) n) (tu + 1) μ7 H locs ls (by (first | ((try clear ex9); (try clear x); (try clear eμ7); (try clear μ7); (try clear y4); (try clear eμ6); (try clear c101_); (try clear hlf); (try clear hμ3); (try clear μ3); (try clear hz9); (try clear mb); (try clear hni); (try clear hs1); (try clear x6); (try clear hqb); (try clear hrn); (try clear hrm); (try clear hm9); (try clear hA); (try clear hf); (try clear hexit180); (try clear hE); (try clear hkc); (try clear h_n); (try clear hwc); (try clear hq18); (try clear hi9); (try clear hb9); (try clear hRs); (try clear hRc); (try clear hRl); (try clear hRf); omega) | omega)) (by rw [eμ7, eμ6]; exact fr_uz (fr_uz (hf) (Or.inr (by (first | ((try clear ex9); (try clear x); (try clear eμ7); (try clear μ7); (try clear y4); (try clear eμ6); (try clear c107_); (try clear c101_); (try clear hlf); (try clear hμ3); (try clear μ3); (try clear hz9); (try clear mb); (try clear hni); (try clear hs1); (try clear c88_); (try clear c79_); (try clear x6); (try clear x5); (try clear hqb); (try clear hrn); (try clear hrm); (try clear hm9); (try clear hA); (try clear hf); (try clear hi); (try clear hexit180); (try clear hE); (try clear hkc); (try clear h_n); (try clear hwc); (try clear hq18); (try clear hi9); (try clear hb9); (try clear hRs); (try clear hRc); (try clear hRl); (try clear hRf); omega) | omega)))) (Or.inr (by (first | ((try clear ex9); (try clear x); (try clear eμ7); (try clear μ7); (try clear y4); (try clear eμ6); (try clear c107_); (try clear c101_); (try clear hlf); (try clear hμ3); (try clear μ3); (try clear hz9); (try clear mb); (try clear hni); (try clear hs1); (try clear c88_); (try clear c79_); (try clear x6); (try clear x5); (try clear hqb); (try clear hrn); (try clear hrm); (try clear hm9); (try clear hA); (try clear hf); (try clear hi); (try clear hexit180); (try clear hE); (try clear hkc); (try clear h_n); (try clear hwc); (try clear hq18); (try clear hi9); (try clear hb9); (try clear hRs); (try clear hRc); (try clear hRl); (try clear hRf); omega) | omega)))) (by rw [eμ7, eμ6]; exact aB_uz (aB_uz (hA) (fun _ => by (first | ((try clear ex9); (try clear x); (try clear eμ7); (try clear μ7); (try clear eμ6); (try clear c107_); (try clear c101_); (try clear hlf); (try clear hμ3); (try clear μ3); (try clear hz9); (try clear mb); (try clear hs1); (try clear c88_); (try clear c79_); (try clear x6); (try clear x5); (try clear hqb); (try clear hrn); (try clear hrm); (try clear hm9); (try clear hA); (try clear hf); (try clear hi); (try clear hexit180); (try clear hE); (try clear hkc); (try clear h_n); (try clear hwc); (try clear hq18); (try clear hRs); (try clear hRc); (try clear hRl); (try clear hRf); omega) | omega))) (fun _ => by (first | ((try clear ex9); (try clear x); (try clear eμ7); (try clear μ7); (try clear y4); (try clear eμ6); (try clear c107_); (try clear c101_); (try clear hlf); (try clear hμ3); (try clear μ3); (try clear hz9); (try clear mb); (try clear hni); (try clear hs1); (try clear c88_); (try clear c79_); (try clear x6); (try clear x5); (try clear hqb); (try clear hrn); (try clear hrm); (try clear hm9); (try clear hA); (try clear hf); (try clear hi); (try clear hexit180); (try clear hE); (try clear hkc); (try clear h_n); (try clear hwc); (try clear hq18); (try clear hRs); (try clear hRc); (try clear hRl); (try clear hRf); omega) | omega))) (by
                                rw [eμ7, eμ6]
                                repeat rw [uz_n (by (first | ((try clear ex9); (try clear x); (try clear eμ7); (try clear μ7); (try clear y4); (try clear eμ6); (try clear c107_); (try clear c101_); (try clear hlf); (try clear hμ3); (try clear μ3); (try clear hz9); (try clear mb); (try clear hni); (try clear hs1); (try clear c88_); (try clear c79_); (try clear x6); (try clear x5); (try clear hqb); (try clear hrn); (try clear hrm); (try clear hm9); (try clear hA); (try clear hf); (try clear hi); (try clear hexit180); (try clear hE); (try clear hkc); (try clear h_n); (try clear hwc); (try clear hq18); (try clear hi9); (try clear hb9); (try clear hRs); (try clear hRc); (try clear hRl); (try clear hRf); omega) | omega))]
                                exact hw9) (by (first | ((try clear ex9); (try clear x); (try clear eμ7); (try clear μ7); (try clear y4); (try clear eμ6); (try clear hμ3); (try clear hz9); (try clear hni); (try clear hs1); (try clear c88_); (try clear x6); (try clear x5); (try clear hrn); (try clear hA); (try clear hf); (try clear hexit180); (try clear hE); (try clear hkc); (try clear hwc); (try clear hq18); (try clear hi9); (try clear hb9); (try clear hRs); (try clear hRc); (try clear hRl); (try clear hRf); omega) | omega)) hP hS (lv_sub hl [0, 2, 1, 3, 4, 5, 6, 7, 8] rfl)
set_option maxHeartbeats 4000000 in
set_option maxRecDepth 100000 in
theorem s_Wwalk (l : Launch) (dC : Nat → ClassId) (dI : Nat → Nat → Nat) (cI cZ cII cIII : ClassId) (h0 sz : Nat) (μ : va_M) (q : Nat) (rm : Nat) (b : Nat) (ii : Nat) (kc : Nat) (nc : Nat) (n : Int) (hq : rowB q rm) (hb9 : b = 113 + ii * 15) (hi9 : ii < 8) (hq18 : q + 6 ≤ 18) (hG : rG μ q rm) (hA : aB μ) (hkc : 110 ≤ kc ∧ kc < 233 ∧ 60 ≤ nc ∧ nc ≤ 1101) (hE : ∀ f, sE cI cZ cII cIII h0 kc f = .inl (cI, nc, .inl f)) (hcr : ∀ j, inR (μ kc j)) (h_n : 0 ≤ n ∧ n ≤ 60) : Met l yX8_walk (Cond.code yX8_walk cX8_walk 9 none :: wsG) ({ frames := 5, cells := 0, slots := 0, locals := 113 } : Room) (va_Pc [.ref (h0 + 45), .ref (h0 + q), .ref (h0 + kc), .int (iZ (n)), .ref (h0 + (b + 10))] (fun U => U.heap.size = sz ∧ va_P (dC, dI) vwCl (fw (sE cI cZ cII cIII h0) h0 233 μ) U.heap ∧ va_K (dC, dI) vwCl (sT cI cZ cII cIII) U ∧ xM U)) (va_Qv (fun (u : va_M) => fr (fun x _ => (x = 46 ∨ x = 47) ∨ (b + 10 ≤ x ∧ x ≤ b + 13)) μ u ∧ aB u ∧ 0 ≤ u (b + 10) 1 ∧ u (b + 10) 1 ≤ 1000000000) (fun u t => va_P (dC, dI) vwCl (fw (sE cI cZ cII cIII h0) h0 233 u) t.heap ∧ va_K (dC, dI) vwCl (sT cI cZ cII cIII) t) (fA h0 233 sz)) 0 0 (fA h0 233 sz) := by
  refine Met.ofW (cc := cX8_walk) (maxL := 9) (ret := none) (by decide) rfl ?_
  intro p e s m args below meth c s₁ B hml hv
  obtain ⟨rfl, hsz, hP, hK, hM⟩ := hv
  have hx := B.exec
  have hb := B.bytes
  have hr := B.returns
  have hts : ∀ w ∈ wsG, w.before _ s = true := hG_of (atoms_spec (ws := (Cond.code yX8_walk cX8_walk 9 none :: wsG)) B.pre)
  have hown : s.vm.findClass RX8 = some m.cls := findClass_of_methodNamed B.named
  have hlocks := B.notSynchronized
  subst hsz
  have hS : va_S (fA h0 233 s.heap.size) s.heap s.heap [] := va_S.rf
  have hl := lv_entry ([.ref (h0 + 45), .ref (h0 + q), .ref (h0 + kc), .int (iZ (n)), .ref (h0 + (b + 10))]) (n := 9) (Nat.le_of_ble_eq_true rfl)
  rw [lg_entry_eq]
  generalize (lg_sl ([.ref (h0 + 45), .ref (h0 + q), .ref (h0 + kc), .int (iZ (n)), .ref (h0 + (b + 10))]) ++ List.replicate (9 - (lg_sl ([.ref (h0 + 45), .ref (h0 + q), .ref (h0 + kc), .int (iZ (n)), .ref (h0 + (b + 10))])).length) Slot.unset).toArray = ls at hl ⊢
  have hl : lv_has ls 9 [(0, .ref (h0 + 45)), (1, .ref (h0 + q)), (2, .ref (h0 + kc)), (3, .int (iZ (n))), (4, .ref (h0 + (b + 10)))] := hl
  have hqb := rowB_b hq
  have hrm := rG_rm hq hG
  have hrn := rG_nod hG
  have hqb := rowB_b hq
  refine lv_aload hx hb dX8_walk_0 (lv_at hl 4 rfl) ?_
  refine lv_aload_n hx hb dX8_walk_2 rfl (lv_at hl 0 rfl) ?_
  refine lv_aload_n hx hb dX8_walk_3 rfl (lv_at hl 1 rfl) ?_
  refine lv_aload_n hx hb dX8_walk_4 rfl (lv_at hl 2 rfl) ?_
  refine lv_iload_n hx hb dX8_walk_5 rfl (lv_at hl 3 rfl) ?_
  refine lv_iconst (v := iZ 0) hx hb dX8_walk_6 rfl ?_
  refine va_calli (va_runV (As := [.ref (h0 + q), .ref (h0 + kc), .int (iZ (n)), .int (iZ (0))]) (rest := [.ref (h0 + (b + 10))]) ⟨hx, hb, hml, hown, hts⟩ (s_WgoThrough l dC dI cI cZ cII cIII h0 s.heap.size μ (q) (rm) (kc) (nc) (n) (0) (hq) (by first | assumption | omega | exact ⟨by omega, by omega⟩) (by first | assumption | omega | exact ⟨by omega, by omega⟩) (by first | assumption | omega | exact ⟨by omega, by omega⟩) (hE) (by first | assumption | omega | exact ⟨by omega, by omega⟩) (by first | assumption | omega | exact ⟨by omega, by omega⟩) (by decide)) (cwV 4 hts (gV_G k543 k544 k545 k8 k546) rfl rfl rfl (by decide +kernel) ⟨Nat.le_of_ble_eq_true rfl, Nat.le_of_ble_eq_true rfl⟩) ⟨fun a U g mk q => by obtain ⟨q0, q1, qP, qK, qM⟩ := q; exact ⟨q0, q1, qP, va_K.moved (u := U) (U := U.calling g mk a) (Vm.Alike.refl U.vm) qK, qM⟩, va_recv hK hP (ci := 8) (q0 := 45) rfl ((fw_get (by decide)).trans (by rw [sE_45])), fun U hU hW => ⟨rfl, by rw [hU], by rw [hU]; exact hP, va_K.moved hW.alike hK, xM_warm hW hM⟩⟩ rfl rfl hl.1 rfl (lv_room (Nat.le_of_ble_eq_true rfl)) dX8_walk_7 ⟨Nat.le_of_ble_eq_true rfl, Nat.le_of_ble_eq_true rfl⟩) hS (fun q _ h => fA_le hS.1 q h) (fA_le hS.1) (fun r9 u9 t9 H1 locs ht9 hvm9 hw9 hB9 hz9 hk9 hS => ?_)
  obtain ⟨μg, rg⟩ := u9
  obtain ⟨hP, -⟩ := hB9
  rw [ht9] at hP
  generalize H1 = H at hP hS ⊢
  obtain ⟨e9, hw9⟩ := hw9
  have e9 : r9 = iZ rg := e9
  subst e9
  simp only at hP hw9
  have hμg := hw9; clear hw9
  obtain ⟨f1_, a1_, w1_, w2_⟩ := hμg
  refine fz_put (D := (dC, dI)) (ci := 7) (ty := .int) (z := rg) (C := RX7) (T := TX7) (N := 5) hx hb hts inG7 tyX7 tyX7_ok nmX7 hown hK hP fA_in hS (k := (b + 10)) (by (first | ((try clear w2_); (try clear w1_); (try clear a1_); (try clear f1_); (try clear hμg); (try clear μg); (try clear hz9); (try clear hqb); (try clear hrn); (try clear hrm); (try clear hsz); (try clear s₁); (try clear h_n); (try clear hE); (try clear hkc); (try clear hq18); omega) | omega)) (F := (sWF h0 b)) (sE_walk hi9 hb9) rfl 1 (by decide) (hts _ k274) (fun _ h9 => h9) rfl (by decide +kernel) rfl rfl (fun _ => Nat.le_of_ble_eq_true rfl) (fun _ _ => rfl) dX8_walk_10 (fun H locs hP hS => ?_)
  obtain ⟨μ8, eμ8⟩ : ∃ x : va_M, x = uz μg (b + 10) 1 (rg) := ⟨_, rfl⟩
  rw [← eμ8] at hP
  refine lv_iconst (v := iZ 0) hx hb dX8_walk_13 rfl ?_
  refine lv_istore (lv' := [(5, .int (iZ (0))), (0, .ref (h0 + 45)), (1, .ref (h0 + q)), (2, .ref (h0 + kc)), (3, .int (iZ (n))), (4, .ref (h0 + (b + 10)))]) hx hb dX8_walk_14 hl (by decide) rfl (fun ls hl => ?_)
  refine LX8_walk_16 hx hb hml hown hts hK hM (Nat.le_of_ble_eq_true rfl) (Nat.le_of_ble_eq_true rfl) (Nat.le_of_ble_eq_true rfl) (Nat.le_of_ble_eq_true rfl) (μ) (q) (rm) (b) (ii) (kc) (nc) (n) (rg) (by assumption) (by assumption) (by assumption) (by assumption) (by exact hG) (by (first | ((try clear μg); (try clear x); (try clear eμ8); (try clear μ8); (try clear a1_); (try clear f1_); (try clear hμg); (try clear hz9); (try clear hqb); (try clear hrn); (try clear hrm); (try clear hsz); (try clear s₁); (try clear h_n); (try clear hE); (try clear hkc); (try clear hq18); (try clear hi9); (try clear hb9); omega) | omega)) (by assumption) (by assumption) (by assumption) (by exact hcr) ?_ _ (0) μ8 H locs ls (by (first | ((try clear μg); (try clear x); (try clear eμ8); (try clear μ8); (try clear w2_); (try clear w1_); (try clear a1_); (try clear f1_); (try clear hμg); (try clear hz9); (try clear hqb); (try clear hrm); (try clear hsz); (try clear s₁); (try clear h_n); (try clear hE); (try clear hkc); (try clear hq18); (try clear hi9); (try clear hb9); omega) | omega)) (by rw [eμ8]; exact fr_uz (fr_mono f1_ (fun x y h => Or.inl h)) (Or.inr (by (first | ((try clear μg); (try clear x); (try clear eμ8); (try clear μ8); (try clear w2_); (try clear w1_); (try clear a1_); (try clear f1_); (try clear hμg); (try clear hz9); (try clear hqb); (try clear hrn); (try clear hrm); (try clear hsz); (try clear s₁); (try clear h_n); (try clear hE); (try clear hkc); (try clear hq18); (try clear hi9); (try clear hb9); omega) | omega)))) (by rw [eμ8]; exact aB_uz a1_ (fun _ => by (first | ((try clear μg); (try clear x); (try clear eμ8); (try clear μ8); (try clear a1_); (try clear f1_); (try clear hμg); (try clear hz9); (try clear hqb); (try clear hrn); (try clear hrm); (try clear hsz); (try clear s₁); (try clear h_n); (try clear hE); (try clear hkc); (try clear hq18); (try clear hi9); (try clear hb9); omega) | omega))) (by rw [eμ8, uz_s]) (Nat.lt_succ_self _) hP hS (lv_sub hl [0, 5, 4, 3, 2, 1] rfl)
  · intro i_10 μ10_ H locs ls q0_10 q1_10 q2_10 hP hS hl
    have hl : lv_has ls 9 [(4, .ref (h0 + (b + 10))), (3, .int (iZ (n))), (2, .ref (h0 + kc)), (1, .ref (h0 + q)), (0, .ref (h0 + 45))] := hl
    have G0 := q0_10
    have G1 := q1_10
    have G2 := q2_10
    have x5 : μ10_ q 5 = μ q 5 := G0 _ _ (by (first | ((try clear x5); (try clear G2); (try clear G1); (try clear G0); (try clear q2_10); (try clear q1_10); (try clear q0_10); (try clear i_10); (try clear μg); (try clear x); (try clear eμ8); (try clear μ8); (try clear w2_); (try clear w1_); (try clear a1_); (try clear f1_); (try clear hμg); (try clear hz9); (try clear hqb); (try clear hrn); (try clear hrm); (try clear hsz); (try clear s₁); (try clear h_n); (try clear hE); (try clear hkc); omega) | omega))
    refine lv_aload hx hb dX8_walk_49 (lv_at hl 0 rfl) ?_
    refine fz_get (D := (dC, dI)) (ci := 7) (v := .int (iZ (μ10_ (b + 10) 1))) (C := RX7) (T := TX7) (N := 5) hx hb hts inG7 hown hK hP (k := (b + 10)) (by (first | ((try clear x5); (try clear G2); (try clear G1); (try clear G0); (try clear q2_10); (try clear q1_10); (try clear q0_10); (try clear i_10); (try clear μg); (try clear x); (try clear eμ8); (try clear μ8); (try clear w2_); (try clear w1_); (try clear a1_); (try clear f1_); (try clear hμg); (try clear hz9); (try clear hqb); (try clear hrn); (try clear hrm); (try clear hsz); (try clear s₁); (try clear h_n); (try clear hE); (try clear hkc); (try clear hq18); omega) | omega)) (F := (sWF h0 b)) (sE_walk hi9 hb9) rfl 1 (by decide) (hts _ k274) (fun _ h9 => h9) rfl dX8_walk_51 ?_
    refine fz_if_ne (tgt := 58) (by constructor <;> (first | ((try clear x5); (try clear G2); (try clear G1); (try clear G0); (try clear q1_10); (try clear q0_10); (try clear i_10); (try clear μg); (try clear x); (try clear eμ8); (try clear μ8); (try clear a1_); (try clear f1_); (try clear hμg); (try clear hz9); (try clear hqb); (try clear hrn); (try clear hrm); (try clear hsz); (try clear s₁); (try clear h_n); (try clear hE); (try clear hkc); (try clear hq18); (try clear hi9); (try clear hb9); omega) | omega)) hx hb dX8_walk_54 (by decide) (fun c54_ => ?_) (fun c54_ => ?_)
    · refine lv_aload_n hx hb dX8_walk_58 rfl (lv_at hl 3 rfl) ?_
      refine fz_get (D := (dC, dI)) (ci := 4) (v := .int (iZ (μ10_ q 5))) (C := RX4) (T := TX4) (N := 8) hx hb hts inG4 hown hK hP (k := q) (by (first | ((try clear c54_); (try clear x5); (try clear G2); (try clear G1); (try clear G0); (try clear q2_10); (try clear q1_10); (try clear q0_10); (try clear i_10); (try clear μg); (try clear x); (try clear eμ8); (try clear μ8); (try clear w2_); (try clear w1_); (try clear a1_); (try clear f1_); (try clear hμg); (try clear hz9); (try clear hqb); (try clear hrn); (try clear hrm); (try clear hsz); (try clear s₁); (try clear h_n); (try clear hE); (try clear hkc); (try clear hi9); (try clear hb9); omega) | omega)) (F := (sRF h0 q)) (sE_rowO hq) rfl 5 (by decide) (hts _ k93) (fun _ h9 => h9) rfl dX8_walk_59 ?_
      refine lv_iconst (v := iZ 1) hx hb dX8_walk_62 rfl ?_
      refine lv_iadd hx hb dX8_walk_63 ?_
      refine lv_topi (fun x9 ex9 => ?_)
      obtain rfl : x9 = iZ ((μ10_ q 5) + 1) := ex9.trans (iZ_add _ _)
      rw [show (μ10_ q 5) + 1 = μ q 5 + 1 from (by (first | ((try clear ex9); (try clear c54_); (try clear G2); (try clear G1); (try clear G0); (try clear q2_10); (try clear q1_10); (try clear q0_10); (try clear i_10); (try clear μg); (try clear x); (try clear eμ8); (try clear μ8); (try clear w2_); (try clear w1_); (try clear a1_); (try clear f1_); (try clear hμg); (try clear hz9); (try clear hqb); (try clear hrn); (try clear hrm); (try clear hsz); (try clear s₁); (try clear h_n); (try clear hE); (try clear hkc); (try clear hq18); (try clear hi9); (try clear hb9); omega) | omega))]
      refine lv_istore (lv' := [(5, .int (iZ (μ q 5 + 1))), (4, .ref (h0 + (b + 10))), (3, .int (iZ (n))), (2, .ref (h0 + kc)), (1, .ref (h0 + q)), (0, .ref (h0 + 45))]) hx hb dX8_walk_64 hl (by decide) rfl (fun ls hl => ?_)
      refine lv_iconst (v := iZ 0) hx hb dX8_walk_66 rfl ?_
      refine lv_istore (lv' := [(6, .int (iZ (0))), (5, .int (iZ (μ q 5 + 1))), (4, .ref (h0 + (b + 10))), (3, .int (iZ (n))), (2, .ref (h0 + kc)), (1, .ref (h0 + q)), (0, .ref (h0 + 45))]) hx hb dX8_walk_67 hl (by decide) rfl (fun ls hl => ?_)
      refine lv_iconst (v := iZ 0) hx hb dX8_walk_69 rfl ?_
      refine lv_istore (lv' := [(7, .int (iZ (0))), (6, .int (iZ (0))), (5, .int (iZ (μ q 5 + 1))), (4, .ref (h0 + (b + 10))), (3, .int (iZ (n))), (2, .ref (h0 + kc)), (1, .ref (h0 + q)), (0, .ref (h0 + 45))]) hx hb dX8_walk_70 hl (by decide) rfl (fun ls hl => ?_)
      refine lv_iconst (v := iZ 0) hx hb dX8_walk_72 rfl ?_
      refine lv_istore (lv' := [(8, .int (iZ (0))), (7, .int (iZ (0))), (6, .int (iZ (0))), (5, .int (iZ (μ q 5 + 1))), (4, .ref (h0 + (b + 10))), (3, .int (iZ (n))), (2, .ref (h0 + kc)), (1, .ref (h0 + q)), (0, .ref (h0 + 45))]) hx hb dX8_walk_73 hl (by decide) rfl (fun ls hl => ?_)
      refine LX8_walk_75 hx hb hml hown hts hK hM (Nat.le_of_ble_eq_true rfl) (Nat.le_of_ble_eq_true rfl) (Nat.le_of_ble_eq_true rfl) (Nat.le_of_ble_eq_true rfl) (μ) (q) (rm) (b) (ii) (kc) (nc) (n) (rg) (by assumption) (by assumption) (by assumption) (by assumption) (by exact hG) (by (first | ((try clear ex9); (try clear c54_); (try clear x5); (try clear G2); (try clear G1); (try clear G0); (try clear q1_10); (try clear q0_10); (try clear i_10); (try clear μg); (try clear x); (try clear eμ8); (try clear μ8); (try clear a1_); (try clear f1_); (try clear hμg); (try clear hz9); (try clear hqb); (try clear hrn); (try clear hrm); (try clear hsz); (try clear s₁); (try clear h_n); (try clear hE); (try clear hkc); (try clear hq18); (try clear hi9); (try clear hb9); omega) | omega)) (by assumption) (by assumption) (by assumption) (by exact hcr) ?_ _ (0) (0) (0) μ10_ H locs ls (by (first | ((try clear ex9); (try clear c54_); (try clear G2); (try clear G1); (try clear G0); (try clear q2_10); (try clear q1_10); (try clear q0_10); (try clear i_10); (try clear μg); (try clear x); (try clear eμ8); (try clear μ8); (try clear w2_); (try clear w1_); (try clear a1_); (try clear f1_); (try clear hμg); (try clear hz9); (try clear hqb); (try clear hrn); (try clear hsz); (try clear s₁); (try clear hE); (try clear hkc); (try clear hq18); (try clear hi9); (try clear hb9); omega) | omega)) (by exact G0) (by exact G1) (by exact G2) (Nat.lt_succ_self _) hP hS (lv_sub hl [0, 1, 2, 3, 4, 5, 6, 7, 8] rfl)
      · intro i_11 k_11 tu_11 μ11_ H locs ls q1_11 q2_11 q3_11 hP hS hl
        have hl : lv_has ls 9 [] := hl
        exact W.vret hx hb hr (fun t9 ht9 hW9 => ⟨⟨μ11_, rfl, (by
                        try dsimp only
                        exact ⟨q1_11, q2_11, by rw [q3_11]; exact ⟨w1_, w2_⟩⟩), by rw [ht9]; exact hP, va_K.moved hW9.alike hK⟩, hS.F ht9⟩) hS.2.2 dX8_walk_180
    · exact W.vret hx hb hr (fun t9 ht9 hW9 => ⟨⟨μ10_, rfl, (by
                    try dsimp only
                    exact ⟨G0, G1, by rw [G2]; exact ⟨w1_, w2_⟩⟩), by rw [ht9]; exact hP, va_K.moved hW9.alike hK⟩, hS.F ht9⟩) hS.2.2 dX8_walk_57

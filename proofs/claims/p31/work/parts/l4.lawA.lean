set_option maxRecDepth 100000 in
theorem k0 : (Cond.initialized "PageSkeletonLaw") ∈ wsG := wsG_a1 0 rfl rfl
set_option maxRecDepth 100000 in
theorem k378 : (Cond.methodLink "PageSkeletonLaw" (114 : Nat) ({ cls := "PageSkeleton", name := "feed", desc := "(IIIII)I" } : MethodName)) ∈ wsG := wsG_a2 138 rfl rfl
set_option maxRecDepth 100000 in
theorem k379 : (Cond.instanceMethod ({ cls := "PageSkeleton", name := "feed", desc := "(IIIII)I" } : MethodName)) ∈ wsG := wsG_a2 139 rfl rfl
set_option maxRecDepth 100000 in
theorem k380 : (Cond.selects "PageSkeleton" ({ cls := "PageSkeleton", name := "feed", desc := "(IIIII)I" } : MethodName) ({ cls := "PageSkeleton", name := "feed", desc := "(IIIII)I" } : MethodName)) ∈ wsG := wsG_a2 140 rfl rfl
set_option maxRecDepth 100000 in
theorem k381 : (Cond.code ({ cls := "PageSkeleton", name := "feed", desc := "(IIIII)I" } : MethodName) prog_1_method_2_code (6 : Nat) (Option.some FieldType.int)) ∈ wsG := wsG_a2 141 rfl rfl
set_option maxRecDepth 100000 in
theorem k386 : (Cond.methodLink "PageSkeletonLaw" (125 : Nat) ({ cls := "PageSkeleton", name := "fault", desc := "()I" } : MethodName)) ∈ wsG := wsG_a2 146 rfl rfl
set_option maxRecDepth 100000 in
theorem k387 : (Cond.instanceMethod ({ cls := "PageSkeleton", name := "fault", desc := "()I" } : MethodName)) ∈ wsG := wsG_a2 147 rfl rfl
set_option maxRecDepth 100000 in
theorem k388 : (Cond.selects "PageSkeleton" ({ cls := "PageSkeleton", name := "fault", desc := "()I" } : MethodName) ({ cls := "PageSkeleton", name := "fault", desc := "()I" } : MethodName)) ∈ wsG := wsG_a2 148 rfl rfl
set_option maxRecDepth 100000 in
theorem k389 : (Cond.code ({ cls := "PageSkeleton", name := "fault", desc := "()I" } : MethodName) prog_1_method_4_code (1 : Nat) (Option.some FieldType.int)) ∈ wsG := wsG_a2 149 rfl rfl
set_option maxRecDepth 100000 in
theorem k390 : (Cond.methodLink "PageSkeletonLaw" (133 : Nat) ({ cls := "PageSkeleton", name := "tidy", desc := "()I" } : MethodName)) ∈ wsG := wsG_a2 150 rfl rfl
set_option maxRecDepth 100000 in
theorem k391 : (Cond.instanceMethod ({ cls := "PageSkeleton", name := "tidy", desc := "()I" } : MethodName)) ∈ wsG := wsG_a2 151 rfl rfl
set_option maxRecDepth 100000 in
theorem k392 : (Cond.selects "PageSkeleton" ({ cls := "PageSkeleton", name := "tidy", desc := "()I" } : MethodName) ({ cls := "PageSkeleton", name := "tidy", desc := "()I" } : MethodName)) ∈ wsG := wsG_a2 152 rfl rfl
set_option maxRecDepth 100000 in
theorem k393 : (Cond.code ({ cls := "PageSkeleton", name := "tidy", desc := "()I" } : MethodName) prog_1_method_6_code (2 : Nat) (Option.some FieldType.int)) ∈ wsG := wsG_a2 153 rfl rfl
set_option maxRecDepth 100000 in
theorem k503 : (Cond.methodLink "PageSkeletonLaw" (140 : Nat) ({ cls := "PageSkeleton", name := "undo", desc := "()I" } : MethodName)) ∈ wsG := wsG_a3 23 rfl rfl
set_option maxRecDepth 100000 in
theorem k504 : (Cond.instanceMethod ({ cls := "PageSkeleton", name := "undo", desc := "()I" } : MethodName)) ∈ wsG := wsG_a3 24 rfl rfl
set_option maxRecDepth 100000 in
theorem k505 : (Cond.selects "PageSkeleton" ({ cls := "PageSkeleton", name := "undo", desc := "()I" } : MethodName) ({ cls := "PageSkeleton", name := "undo", desc := "()I" } : MethodName)) ∈ wsG := wsG_a3 25 rfl rfl
set_option maxRecDepth 100000 in
theorem k506 : (Cond.code ({ cls := "PageSkeleton", name := "undo", desc := "()I" } : MethodName) prog_1_method_8_code (1 : Nat) (Option.some FieldType.int)) ∈ wsG := wsG_a3 26 rfl rfl
set_option maxRecDepth 100000 in
theorem k517 : (Cond.methodLink "PageSkeletonLaw" (144 : Nat) ({ cls := "PageSkeleton", name := "clear", desc := "()I" } : MethodName)) ∈ wsG := wsG_a3 37 rfl rfl
set_option maxRecDepth 100000 in
theorem k518 : (Cond.instanceMethod ({ cls := "PageSkeleton", name := "clear", desc := "()I" } : MethodName)) ∈ wsG := wsG_a3 38 rfl rfl
set_option maxRecDepth 100000 in
theorem k519 : (Cond.selects "PageSkeleton" ({ cls := "PageSkeleton", name := "clear", desc := "()I" } : MethodName) ({ cls := "PageSkeleton", name := "clear", desc := "()I" } : MethodName)) ∈ wsG := wsG_a3 39 rfl rfl
set_option maxRecDepth 100000 in
theorem k520 : (Cond.code ({ cls := "PageSkeleton", name := "clear", desc := "()I" } : MethodName) prog_1_method_9_code (2 : Nat) (Option.some FieldType.int)) ∈ wsG := wsG_a3 40 rfl rfl
set_option maxRecDepth 100000 in
theorem k587 : (Cond.methodLink "PageSkeletonLaw" (119 : Nat) ({ cls := "PageSkeletonLaw", name := "page", desc := "(LPageSkeleton;I[J)I" } : MethodName)) ∈ wsG := wsG_a3 107 rfl rfl
set_option maxRecDepth 100000 in
theorem k588 : (Cond.static ({ cls := "PageSkeletonLaw", name := "page", desc := "(LPageSkeleton;I[J)I" } : MethodName)) ∈ wsG := wsG_a3 108 rfl rfl
set_option maxRecDepth 100000 in
theorem k589 : (Cond.codeWith ({ cls := "PageSkeletonLaw", name := "page", desc := "(LPageSkeleton;I[J)I" } : MethodName) method_3_code (4 : Nat) (Option.some FieldType.int) [((0 : Nat), (9 : Nat), (12 : Nat), (13 : Nat)), ((0 : Nat), (9 : Nat), (15 : Nat), (15 : Nat))]) ∈ wsG := wsG_a3 109 rfl rfl
set_option maxRecDepth 100000 in
theorem k727 : (Cond.methodLink "PageSkeletonLaw" (130 : Nat) ({ cls := "PageSkeletonLaw", name := "lay", desc := "(LPageSkeleton;I[J)I" } : MethodName)) ∈ wsG := wsG_a4 7 rfl rfl
set_option maxRecDepth 100000 in
theorem k728 : (Cond.static ({ cls := "PageSkeletonLaw", name := "lay", desc := "(LPageSkeleton;I[J)I" } : MethodName)) ∈ wsG := wsG_a4 8 rfl rfl
set_option maxRecDepth 100000 in
theorem k729 : (Cond.codeWith ({ cls := "PageSkeletonLaw", name := "lay", desc := "(LPageSkeleton;I[J)I" } : MethodName) method_4_code (4 : Nat) (Option.some FieldType.int) [((0 : Nat), (9 : Nat), (12 : Nat), (20 : Nat)), ((0 : Nat), (9 : Nat), (15 : Nat), (15 : Nat))]) ∈ wsG := wsG_a4 9 rfl rfl
set_option maxRecDepth 100000 in
theorem k837 : (Cond.methodLink "PageSkeletonLaw" (137 : Nat) ({ cls := "PageSkeletonLaw", name := "tidied", desc := "(LPageSkeleton;I[J)I" } : MethodName)) ∈ wsG := wsG_a4 117 rfl rfl
set_option maxRecDepth 100000 in
theorem k838 : (Cond.static ({ cls := "PageSkeletonLaw", name := "tidied", desc := "(LPageSkeleton;I[J)I" } : MethodName)) ∈ wsG := wsG_a4 118 rfl rfl
set_option maxRecDepth 100000 in
theorem k839 : (Cond.codeWith ({ cls := "PageSkeletonLaw", name := "tidied", desc := "(LPageSkeleton;I[J)I" } : MethodName) method_5_code (4 : Nat) (Option.some FieldType.int) [((0 : Nat), (9 : Nat), (12 : Nat), (13 : Nat))]) ∈ wsG := wsG_a4 119 rfl rfl
set_option maxRecDepth 100000 in
theorem k849 : (Cond.methodLink "PageSkeletonLaw" (148 : Nat) ({ cls := "PageSkeletonLaw", name := "told", desc := "(LPageSkeleton;I[J)I" } : MethodName)) ∈ wsG := wsG_a4 129 rfl rfl
set_option maxRecDepth 100000 in
theorem k850 : (Cond.static ({ cls := "PageSkeletonLaw", name := "told", desc := "(LPageSkeleton;I[J)I" } : MethodName)) ∈ wsG := wsG_a4 130 rfl rfl
set_option maxRecDepth 100000 in
theorem k851 : (Cond.codeWith ({ cls := "PageSkeletonLaw", name := "told", desc := "(LPageSkeleton;I[J)I" } : MethodName) method_6_code (4 : Nat) (Option.some FieldType.int) [((0 : Nat), (9 : Nat), (12 : Nat), (13 : Nat))]) ∈ wsG := wsG_a4 131 rfl rfl
set_option maxRecDepth 100000 in
theorem k860 : (Cond.methodLink "PageSkeletonLaw" (151 : Nat) ({ cls := "PageSkeletonLaw", name := "pageOf", desc := "(LPageSkeleton;II[J)I" } : MethodName)) ∈ wsG := wsG_a4 140 rfl rfl
set_option maxRecDepth 100000 in
theorem k861 : (Cond.static ({ cls := "PageSkeletonLaw", name := "pageOf", desc := "(LPageSkeleton;II[J)I" } : MethodName)) ∈ wsG := wsG_a4 141 rfl rfl
set_option maxRecDepth 100000 in
theorem k862 : (Cond.codeWith ({ cls := "PageSkeletonLaw", name := "pageOf", desc := "(LPageSkeleton;II[J)I" } : MethodName) method_7_code (5 : Nat) (Option.some FieldType.int) [((0 : Nat), (10 : Nat), (13 : Nat), (20 : Nat)), ((0 : Nat), (10 : Nat), (17 : Nat), (13 : Nat))]) ∈ wsG := wsG_a4 142 rfl rfl
set_option maxRecDepth 100000 in
theorem k1331 : (Cond.methodLink "PageSkeletonLaw" (118 : Nat) ({ cls := "PageSkeletonModel", name := "feed", desc := "(IIIII)I" } : MethodName)) ∈ wsG := wsG_a6 131 rfl rfl
set_option maxRecDepth 100000 in
theorem k1332 : (Cond.instanceMethod ({ cls := "PageSkeletonModel", name := "feed", desc := "(IIIII)I" } : MethodName)) ∈ wsG := wsG_a6 132 rfl rfl
set_option maxRecDepth 100000 in
theorem k1333 : (Cond.selects "PageSkeletonModel" ({ cls := "PageSkeletonModel", name := "feed", desc := "(IIIII)I" } : MethodName) ({ cls := "PageSkeletonModel", name := "feed", desc := "(IIIII)I" } : MethodName)) ∈ wsG := wsG_a6 133 rfl rfl
set_option maxRecDepth 100000 in
theorem k1334 : (Cond.code ({ cls := "PageSkeletonModel", name := "feed", desc := "(IIIII)I" } : MethodName) prog_12_method_7_code (8 : Nat) (Option.some FieldType.int)) ∈ wsG := wsG_a6 134 rfl rfl
set_option maxRecDepth 100000 in
theorem k1335 : (Cond.methodLink "PageSkeletonLaw" (124 : Nat) ({ cls := "PageSkeletonModel", name := "page", desc := "(I)I" } : MethodName)) ∈ wsG := wsG_a6 135 rfl rfl
set_option maxRecDepth 100000 in
theorem k1336 : (Cond.instanceMethod ({ cls := "PageSkeletonModel", name := "page", desc := "(I)I" } : MethodName)) ∈ wsG := wsG_a6 136 rfl rfl
set_option maxRecDepth 100000 in
theorem k1337 : (Cond.selects "PageSkeletonModel" ({ cls := "PageSkeletonModel", name := "page", desc := "(I)I" } : MethodName) ({ cls := "PageSkeletonModel", name := "page", desc := "(I)I" } : MethodName)) ∈ wsG := wsG_a6 137 rfl rfl
set_option maxRecDepth 100000 in
theorem k1338 : (Cond.code ({ cls := "PageSkeletonModel", name := "page", desc := "(I)I" } : MethodName) prog_12_method_15_code (4 : Nat) (Option.some FieldType.int)) ∈ wsG := wsG_a6 138 rfl rfl
set_option maxRecDepth 100000 in
theorem k1432 : (Cond.methodLink "PageSkeletonLaw" (129 : Nat) ({ cls := "PageSkeletonModel", name := "fault", desc := "()I" } : MethodName)) ∈ wsG := wsG_a6 232 rfl rfl
set_option maxRecDepth 100000 in
theorem k1433 : (Cond.instanceMethod ({ cls := "PageSkeletonModel", name := "fault", desc := "()I" } : MethodName)) ∈ wsG := wsG_a6 233 rfl rfl
set_option maxRecDepth 100000 in
theorem k1434 : (Cond.selects "PageSkeletonModel" ({ cls := "PageSkeletonModel", name := "fault", desc := "()I" } : MethodName) ({ cls := "PageSkeletonModel", name := "fault", desc := "()I" } : MethodName)) ∈ wsG := wsG_a6 234 rfl rfl
set_option maxRecDepth 100000 in
theorem k1435 : (Cond.code ({ cls := "PageSkeletonModel", name := "fault", desc := "()I" } : MethodName) prog_12_method_16_code (1 : Nat) (Option.some FieldType.int)) ∈ wsG := wsG_a6 235 rfl rfl
set_option maxRecDepth 100000 in
theorem k1436 : (Cond.methodLink "PageSkeletonLaw" (136 : Nat) ({ cls := "PageSkeletonModel", name := "tidy", desc := "()I" } : MethodName)) ∈ wsG := wsG_a6 236 rfl rfl
set_option maxRecDepth 100000 in
theorem k1437 : (Cond.instanceMethod ({ cls := "PageSkeletonModel", name := "tidy", desc := "()I" } : MethodName)) ∈ wsG := wsG_a6 237 rfl rfl
set_option maxRecDepth 100000 in
theorem k1438 : (Cond.selects "PageSkeletonModel" ({ cls := "PageSkeletonModel", name := "tidy", desc := "()I" } : MethodName) ({ cls := "PageSkeletonModel", name := "tidy", desc := "()I" } : MethodName)) ∈ wsG := wsG_a6 238 rfl rfl
set_option maxRecDepth 100000 in
theorem k1439 : (Cond.code ({ cls := "PageSkeletonModel", name := "tidy", desc := "()I" } : MethodName) prog_12_method_49_code (2 : Nat) (Option.some FieldType.int)) ∈ wsG := wsG_a6 239 rfl rfl
set_option maxRecDepth 100000 in
theorem k1484 : (Cond.methodLink "PageSkeletonLaw" (139 : Nat) ({ cls := "PageSkeletonModel", name := "tidied", desc := "(I)I" } : MethodName)) ∈ wsG := wsG_a7 44 rfl rfl
set_option maxRecDepth 100000 in
theorem k1485 : (Cond.instanceMethod ({ cls := "PageSkeletonModel", name := "tidied", desc := "(I)I" } : MethodName)) ∈ wsG := wsG_a7 45 rfl rfl
set_option maxRecDepth 100000 in
theorem k1486 : (Cond.selects "PageSkeletonModel" ({ cls := "PageSkeletonModel", name := "tidied", desc := "(I)I" } : MethodName) ({ cls := "PageSkeletonModel", name := "tidied", desc := "(I)I" } : MethodName)) ∈ wsG := wsG_a7 46 rfl rfl
set_option maxRecDepth 100000 in
theorem k1487 : (Cond.code ({ cls := "PageSkeletonModel", name := "tidied", desc := "(I)I" } : MethodName) prog_12_method_51_code (3 : Nat) (Option.some FieldType.int)) ∈ wsG := wsG_a7 47 rfl rfl
set_option maxRecDepth 100000 in
theorem k1535 : (Cond.methodLink "PageSkeletonLaw" (132 : Nat) ({ cls := "PageSkeletonModel", name := "lay", desc := "(I)I" } : MethodName)) ∈ wsG := wsG_a7 95 rfl rfl
set_option maxRecDepth 100000 in
theorem k1536 : (Cond.instanceMethod ({ cls := "PageSkeletonModel", name := "lay", desc := "(I)I" } : MethodName)) ∈ wsG := wsG_a7 96 rfl rfl
set_option maxRecDepth 100000 in
theorem k1537 : (Cond.selects "PageSkeletonModel" ({ cls := "PageSkeletonModel", name := "lay", desc := "(I)I" } : MethodName) ({ cls := "PageSkeletonModel", name := "lay", desc := "(I)I" } : MethodName)) ∈ wsG := wsG_a7 97 rfl rfl
set_option maxRecDepth 100000 in
theorem k1538 : (Cond.code ({ cls := "PageSkeletonModel", name := "lay", desc := "(I)I" } : MethodName) prog_12_method_53_code (3 : Nat) (Option.some FieldType.int)) ∈ wsG := wsG_a7 98 rfl rfl
set_option maxRecDepth 100000 in
theorem k1568 : (Cond.methodLink "PageSkeletonLaw" (143 : Nat) ({ cls := "PageSkeletonModel", name := "undo", desc := "()I" } : MethodName)) ∈ wsG := wsG_a7 128 rfl rfl
set_option maxRecDepth 100000 in
theorem k1569 : (Cond.instanceMethod ({ cls := "PageSkeletonModel", name := "undo", desc := "()I" } : MethodName)) ∈ wsG := wsG_a7 129 rfl rfl
set_option maxRecDepth 100000 in
theorem k1570 : (Cond.selects "PageSkeletonModel" ({ cls := "PageSkeletonModel", name := "undo", desc := "()I" } : MethodName) ({ cls := "PageSkeletonModel", name := "undo", desc := "()I" } : MethodName)) ∈ wsG := wsG_a7 130 rfl rfl
set_option maxRecDepth 100000 in
theorem k1571 : (Cond.code ({ cls := "PageSkeletonModel", name := "undo", desc := "()I" } : MethodName) prog_12_method_56_code (1 : Nat) (Option.some FieldType.int)) ∈ wsG := wsG_a7 131 rfl rfl
set_option maxRecDepth 100000 in
theorem k1572 : (Cond.methodLink "PageSkeletonLaw" (147 : Nat) ({ cls := "PageSkeletonModel", name := "clear", desc := "()I" } : MethodName)) ∈ wsG := wsG_a7 132 rfl rfl
set_option maxRecDepth 100000 in
theorem k1573 : (Cond.instanceMethod ({ cls := "PageSkeletonModel", name := "clear", desc := "()I" } : MethodName)) ∈ wsG := wsG_a7 133 rfl rfl
set_option maxRecDepth 100000 in
theorem k1574 : (Cond.selects "PageSkeletonModel" ({ cls := "PageSkeletonModel", name := "clear", desc := "()I" } : MethodName) ({ cls := "PageSkeletonModel", name := "clear", desc := "()I" } : MethodName)) ∈ wsG := wsG_a7 134 rfl rfl
set_option maxRecDepth 100000 in
theorem k1575 : (Cond.code ({ cls := "PageSkeletonModel", name := "clear", desc := "()I" } : MethodName) prog_12_method_57_code (2 : Nat) (Option.some FieldType.int)) ∈ wsG := wsG_a7 135 rfl rfl
set_option maxRecDepth 100000 in
theorem k1576 : (Cond.methodLink "PageSkeletonLaw" (150 : Nat) ({ cls := "PageSkeletonModel", name := "told", desc := "(I)I" } : MethodName)) ∈ wsG := wsG_a7 136 rfl rfl
set_option maxRecDepth 100000 in
theorem k1577 : (Cond.instanceMethod ({ cls := "PageSkeletonModel", name := "told", desc := "(I)I" } : MethodName)) ∈ wsG := wsG_a7 137 rfl rfl
set_option maxRecDepth 100000 in
theorem k1578 : (Cond.selects "PageSkeletonModel" ({ cls := "PageSkeletonModel", name := "told", desc := "(I)I" } : MethodName) ({ cls := "PageSkeletonModel", name := "told", desc := "(I)I" } : MethodName)) ∈ wsG := wsG_a7 138 rfl rfl
set_option maxRecDepth 100000 in
theorem k1579 : (Cond.code ({ cls := "PageSkeletonModel", name := "told", desc := "(I)I" } : MethodName) prog_12_method_59_code (2 : Nat) (Option.some FieldType.int)) ∈ wsG := wsG_a7 139 rfl rfl
set_option maxRecDepth 100000 in
theorem k1584 : (Cond.methodLink "PageSkeletonLaw" (154 : Nat) ({ cls := "PageSkeletonModel", name := "pageOf", desc := "(II)I" } : MethodName)) ∈ wsG := wsG_a7 144 rfl rfl
set_option maxRecDepth 100000 in
theorem k1585 : (Cond.instanceMethod ({ cls := "PageSkeletonModel", name := "pageOf", desc := "(II)I" } : MethodName)) ∈ wsG := wsG_a7 145 rfl rfl
set_option maxRecDepth 100000 in
theorem k1586 : (Cond.selects "PageSkeletonModel" ({ cls := "PageSkeletonModel", name := "pageOf", desc := "(II)I" } : MethodName) ({ cls := "PageSkeletonModel", name := "pageOf", desc := "(II)I" } : MethodName)) ∈ wsG := wsG_a7 146 rfl rfl
set_option maxRecDepth 100000 in
theorem k1587 : (Cond.code ({ cls := "PageSkeletonModel", name := "pageOf", desc := "(II)I" } : MethodName) prog_12_method_64_code (4 : Nat) (Option.some FieldType.int)) ∈ wsG := wsG_a7 147 rfl rfl
theorem dL_law_208 : decode cL_law 208 = .ok (.aload_n 1, 1) := by decide +kernel
theorem dL_law_209 : decode cL_law 209 = .ok (.aload_n 0, 1) := by decide +kernel
theorem dL_law_210 : decode cL_law 210 = .ok (.iload 4, 2) := by decide +kernel
theorem dL_law_212 : decode cL_law 212 = .ok (.iconst 1, 1) := by decide +kernel
theorem dL_law_213 : decode cL_law 213 = .ok (.iadd, 1) := by decide +kernel
theorem dL_law_214 : decode cL_law 214 = .ok (.iaload, 1) := by decide +kernel
theorem dL_law_215 : decode cL_law 215 = .ok (.aload_n 0, 1) := by decide +kernel
theorem dL_law_216 : decode cL_law 216 = .ok (.iload 4, 2) := by decide +kernel
theorem dL_law_218 : decode cL_law 218 = .ok (.iconst 2, 1) := by decide +kernel
theorem dL_law_219 : decode cL_law 219 = .ok (.iadd, 1) := by decide +kernel
theorem dL_law_220 : decode cL_law 220 = .ok (.iaload, 1) := by decide +kernel
theorem dL_law_221 : decode cL_law 221 = .ok (.aload_n 0, 1) := by decide +kernel
theorem dL_law_222 : decode cL_law 222 = .ok (.iload 4, 2) := by decide +kernel
theorem dL_law_224 : decode cL_law 224 = .ok (.iconst 3, 1) := by decide +kernel
theorem dL_law_225 : decode cL_law 225 = .ok (.iadd, 1) := by decide +kernel
theorem dL_law_226 : decode cL_law 226 = .ok (.iaload, 1) := by decide +kernel
theorem dL_law_227 : decode cL_law 227 = .ok (.aload_n 0, 1) := by decide +kernel
theorem dL_law_228 : decode cL_law 228 = .ok (.iload 4, 2) := by decide +kernel
theorem dL_law_230 : decode cL_law 230 = .ok (.iconst 4, 1) := by decide +kernel
theorem dL_law_231 : decode cL_law 231 = .ok (.iadd, 1) := by decide +kernel
theorem dL_law_232 : decode cL_law 232 = .ok (.iaload, 1) := by decide +kernel
theorem dL_law_233 : decode cL_law 233 = .ok (.aload_n 0, 1) := by decide +kernel
theorem dL_law_234 : decode cL_law 234 = .ok (.iload 4, 2) := by decide +kernel
theorem dL_law_236 : decode cL_law 236 = .ok (.iconst 5, 1) := by decide +kernel
theorem dL_law_237 : decode cL_law 237 = .ok (.iadd, 1) := by decide +kernel
theorem dL_law_238 : decode cL_law 238 = .ok (.iaload, 1) := by decide +kernel
theorem dL_law_239 : decode cL_law 239 = .ok (.invokevirtual 114, 3) := by decide +kernel
theorem dL_law_242 : decode cL_law 242 = .ok (.pop, 1) := by decide +kernel
theorem dL_law_243 : decode cL_law 243 = .ok (.aload_n 2, 1) := by decide +kernel
theorem dL_law_244 : decode cL_law 244 = .ok (.aload_n 0, 1) := by decide +kernel
theorem dL_law_245 : decode cL_law 245 = .ok (.iload 4, 2) := by decide +kernel
theorem dL_law_247 : decode cL_law 247 = .ok (.iconst 1, 1) := by decide +kernel
theorem dL_law_248 : decode cL_law 248 = .ok (.iadd, 1) := by decide +kernel
theorem dL_law_249 : decode cL_law 249 = .ok (.iaload, 1) := by decide +kernel
theorem dL_law_250 : decode cL_law 250 = .ok (.aload_n 0, 1) := by decide +kernel
theorem dL_law_251 : decode cL_law 251 = .ok (.iload 4, 2) := by decide +kernel
theorem dL_law_253 : decode cL_law 253 = .ok (.iconst 2, 1) := by decide +kernel
theorem dL_law_254 : decode cL_law 254 = .ok (.iadd, 1) := by decide +kernel
theorem dL_law_255 : decode cL_law 255 = .ok (.iaload, 1) := by decide +kernel
theorem dL_law_256 : decode cL_law 256 = .ok (.aload_n 0, 1) := by decide +kernel
theorem dL_law_257 : decode cL_law 257 = .ok (.iload 4, 2) := by decide +kernel
theorem dL_law_259 : decode cL_law 259 = .ok (.iconst 3, 1) := by decide +kernel
theorem dL_law_260 : decode cL_law 260 = .ok (.iadd, 1) := by decide +kernel
theorem dL_law_261 : decode cL_law 261 = .ok (.iaload, 1) := by decide +kernel
theorem dL_law_262 : decode cL_law 262 = .ok (.aload_n 0, 1) := by decide +kernel
theorem dL_law_263 : decode cL_law 263 = .ok (.iload 4, 2) := by decide +kernel
theorem dL_law_265 : decode cL_law 265 = .ok (.iconst 4, 1) := by decide +kernel
theorem dL_law_266 : decode cL_law 266 = .ok (.iadd, 1) := by decide +kernel
theorem dL_law_267 : decode cL_law 267 = .ok (.iaload, 1) := by decide +kernel
theorem dL_law_268 : decode cL_law 268 = .ok (.aload_n 0, 1) := by decide +kernel
theorem dL_law_269 : decode cL_law 269 = .ok (.iload 4, 2) := by decide +kernel
theorem dL_law_271 : decode cL_law 271 = .ok (.iconst 5, 1) := by decide +kernel
theorem dL_law_272 : decode cL_law 272 = .ok (.iadd, 1) := by decide +kernel
theorem dL_law_273 : decode cL_law 273 = .ok (.iaload, 1) := by decide +kernel
theorem dL_law_274 : decode cL_law 274 = .ok (.invokevirtual 118, 3) := by decide +kernel
theorem dL_law_277 : decode cL_law 277 = .ok (.pop, 1) := by decide +kernel
theorem dL_law_278 : decode cL_law 278 = .ok (.goto 1190, 3) := by decide +kernel
theorem dL_law_281 : decode cL_law 281 = .ok (.aload_n 1, 1) := by decide +kernel
theorem dL_law_282 : decode cL_law 282 = .ok (.aload_n 0, 1) := by decide +kernel
theorem dL_law_283 : decode cL_law 283 = .ok (.iload 4, 2) := by decide +kernel
theorem dL_law_285 : decode cL_law 285 = .ok (.iconst 1, 1) := by decide +kernel
theorem dL_law_286 : decode cL_law 286 = .ok (.iadd, 1) := by decide +kernel
theorem dL_law_287 : decode cL_law 287 = .ok (.iaload, 1) := by decide +kernel
theorem dL_law_288 : decode cL_law 288 = .ok (.aload_n 3, 1) := by decide +kernel
theorem dL_law_289 : decode cL_law 289 = .ok (.invokestatic 119, 3) := by decide +kernel
theorem dL_law_292 : decode cL_law 292 = .ok (.istore 5, 2) := by decide +kernel
theorem dL_law_294 : decode cL_law 294 = .ok (.aload_n 2, 1) := by decide +kernel
theorem dL_law_295 : decode cL_law 295 = .ok (.aload_n 0, 1) := by decide +kernel
theorem dL_law_296 : decode cL_law 296 = .ok (.iload 4, 2) := by decide +kernel
theorem dL_law_298 : decode cL_law 298 = .ok (.iconst 1, 1) := by decide +kernel
theorem dL_law_299 : decode cL_law 299 = .ok (.iadd, 1) := by decide +kernel
theorem dL_law_300 : decode cL_law 300 = .ok (.iaload, 1) := by decide +kernel
theorem dL_law_301 : decode cL_law 301 = .ok (.invokevirtual 124, 3) := by decide +kernel
theorem dL_law_304 : decode cL_law 304 = .ok (.istore 6, 2) := by decide +kernel
theorem dL_law_306 : decode cL_law 306 = .ok (.goto 1162, 3) := by decide +kernel
theorem dL_law_309 : decode cL_law 309 = .ok (.aload_n 1, 1) := by decide +kernel
theorem dL_law_310 : decode cL_law 310 = .ok (.invokevirtual 125, 3) := by decide +kernel
theorem dL_law_313 : decode cL_law 313 = .ok (.pop, 1) := by decide +kernel
theorem dL_law_314 : decode cL_law 314 = .ok (.aload_n 2, 1) := by decide +kernel
theorem dL_law_315 : decode cL_law 315 = .ok (.invokevirtual 129, 3) := by decide +kernel
theorem dL_law_318 : decode cL_law 318 = .ok (.pop, 1) := by decide +kernel
theorem dL_law_319 : decode cL_law 319 = .ok (.goto 1149, 3) := by decide +kernel
theorem dL_law_322 : decode cL_law 322 = .ok (.aload_n 1, 1) := by decide +kernel
theorem dL_law_323 : decode cL_law 323 = .ok (.aload_n 0, 1) := by decide +kernel
theorem dL_law_324 : decode cL_law 324 = .ok (.iload 4, 2) := by decide +kernel
theorem dL_law_326 : decode cL_law 326 = .ok (.iconst 1, 1) := by decide +kernel
theorem dL_law_327 : decode cL_law 327 = .ok (.iadd, 1) := by decide +kernel
theorem dL_law_328 : decode cL_law 328 = .ok (.iaload, 1) := by decide +kernel
theorem dL_law_329 : decode cL_law 329 = .ok (.aload_n 3, 1) := by decide +kernel
theorem dL_law_330 : decode cL_law 330 = .ok (.invokestatic 130, 3) := by decide +kernel
theorem dL_law_333 : decode cL_law 333 = .ok (.istore 5, 2) := by decide +kernel
theorem dL_law_335 : decode cL_law 335 = .ok (.aload_n 2, 1) := by decide +kernel
theorem dL_law_336 : decode cL_law 336 = .ok (.aload_n 0, 1) := by decide +kernel
theorem dL_law_337 : decode cL_law 337 = .ok (.iload 4, 2) := by decide +kernel
theorem dL_law_339 : decode cL_law 339 = .ok (.iconst 1, 1) := by decide +kernel
theorem dL_law_340 : decode cL_law 340 = .ok (.iadd, 1) := by decide +kernel
theorem dL_law_341 : decode cL_law 341 = .ok (.iaload, 1) := by decide +kernel
theorem dL_law_342 : decode cL_law 342 = .ok (.invokevirtual 132, 3) := by decide +kernel
theorem dL_law_345 : decode cL_law 345 = .ok (.istore 6, 2) := by decide +kernel
theorem dL_law_347 : decode cL_law 347 = .ok (.goto 1121, 3) := by decide +kernel
theorem dL_law_350 : decode cL_law 350 = .ok (.aload_n 1, 1) := by decide +kernel
theorem dL_law_351 : decode cL_law 351 = .ok (.invokevirtual 133, 3) := by decide +kernel
theorem dL_law_354 : decode cL_law 354 = .ok (.pop, 1) := by decide +kernel
theorem dL_law_355 : decode cL_law 355 = .ok (.aload_n 2, 1) := by decide +kernel
theorem dL_law_356 : decode cL_law 356 = .ok (.invokevirtual 136, 3) := by decide +kernel
theorem dL_law_359 : decode cL_law 359 = .ok (.pop, 1) := by decide +kernel
theorem dL_law_360 : decode cL_law 360 = .ok (.goto 1108, 3) := by decide +kernel
theorem dL_law_363 : decode cL_law 363 = .ok (.aload_n 1, 1) := by decide +kernel
theorem dL_law_364 : decode cL_law 364 = .ok (.aload_n 0, 1) := by decide +kernel
theorem dL_law_365 : decode cL_law 365 = .ok (.iload 4, 2) := by decide +kernel
theorem dL_law_367 : decode cL_law 367 = .ok (.iconst 1, 1) := by decide +kernel
theorem dL_law_368 : decode cL_law 368 = .ok (.iadd, 1) := by decide +kernel
theorem dL_law_369 : decode cL_law 369 = .ok (.iaload, 1) := by decide +kernel
theorem dL_law_370 : decode cL_law 370 = .ok (.aload_n 3, 1) := by decide +kernel
theorem dL_law_371 : decode cL_law 371 = .ok (.invokestatic 137, 3) := by decide +kernel
theorem dL_law_374 : decode cL_law 374 = .ok (.istore 5, 2) := by decide +kernel
theorem dL_law_376 : decode cL_law 376 = .ok (.aload_n 2, 1) := by decide +kernel
theorem dL_law_377 : decode cL_law 377 = .ok (.aload_n 0, 1) := by decide +kernel
theorem dL_law_378 : decode cL_law 378 = .ok (.iload 4, 2) := by decide +kernel
theorem dL_law_380 : decode cL_law 380 = .ok (.iconst 1, 1) := by decide +kernel
theorem dL_law_381 : decode cL_law 381 = .ok (.iadd, 1) := by decide +kernel
theorem dL_law_382 : decode cL_law 382 = .ok (.iaload, 1) := by decide +kernel
theorem dL_law_383 : decode cL_law 383 = .ok (.invokevirtual 139, 3) := by decide +kernel
theorem dL_law_386 : decode cL_law 386 = .ok (.istore 6, 2) := by decide +kernel
theorem dL_law_388 : decode cL_law 388 = .ok (.goto 1080, 3) := by decide +kernel
theorem dL_law_391 : decode cL_law 391 = .ok (.aload_n 1, 1) := by decide +kernel
theorem dL_law_392 : decode cL_law 392 = .ok (.invokevirtual 140, 3) := by decide +kernel
theorem dL_law_395 : decode cL_law 395 = .ok (.pop, 1) := by decide +kernel
theorem dL_law_396 : decode cL_law 396 = .ok (.aload_n 2, 1) := by decide +kernel
theorem dL_law_397 : decode cL_law 397 = .ok (.invokevirtual 143, 3) := by decide +kernel
theorem dL_law_400 : decode cL_law 400 = .ok (.pop, 1) := by decide +kernel
theorem dL_law_401 : decode cL_law 401 = .ok (.goto 1067, 3) := by decide +kernel
theorem dL_law_404 : decode cL_law 404 = .ok (.aload_n 1, 1) := by decide +kernel
theorem dL_law_405 : decode cL_law 405 = .ok (.invokevirtual 144, 3) := by decide +kernel
theorem dL_law_408 : decode cL_law 408 = .ok (.pop, 1) := by decide +kernel
theorem dL_law_409 : decode cL_law 409 = .ok (.aload_n 2, 1) := by decide +kernel
theorem dL_law_410 : decode cL_law 410 = .ok (.invokevirtual 147, 3) := by decide +kernel
theorem dL_law_413 : decode cL_law 413 = .ok (.pop, 1) := by decide +kernel
theorem dL_law_414 : decode cL_law 414 = .ok (.goto 1054, 3) := by decide +kernel
theorem dL_law_417 : decode cL_law 417 = .ok (.aload_n 1, 1) := by decide +kernel
theorem dL_law_418 : decode cL_law 418 = .ok (.aload_n 0, 1) := by decide +kernel
theorem dL_law_419 : decode cL_law 419 = .ok (.iload 4, 2) := by decide +kernel
theorem dL_law_421 : decode cL_law 421 = .ok (.iconst 1, 1) := by decide +kernel
theorem dL_law_422 : decode cL_law 422 = .ok (.iadd, 1) := by decide +kernel
theorem dL_law_423 : decode cL_law 423 = .ok (.iaload, 1) := by decide +kernel
theorem dL_law_424 : decode cL_law 424 = .ok (.aload_n 3, 1) := by decide +kernel
theorem dL_law_425 : decode cL_law 425 = .ok (.invokestatic 148, 3) := by decide +kernel
theorem dL_law_428 : decode cL_law 428 = .ok (.istore 5, 2) := by decide +kernel
theorem dL_law_430 : decode cL_law 430 = .ok (.aload_n 2, 1) := by decide +kernel
theorem dL_law_431 : decode cL_law 431 = .ok (.aload_n 0, 1) := by decide +kernel
theorem dL_law_432 : decode cL_law 432 = .ok (.iload 4, 2) := by decide +kernel
theorem dL_law_434 : decode cL_law 434 = .ok (.iconst 1, 1) := by decide +kernel
theorem dL_law_435 : decode cL_law 435 = .ok (.iadd, 1) := by decide +kernel
theorem dL_law_436 : decode cL_law 436 = .ok (.iaload, 1) := by decide +kernel
theorem dL_law_437 : decode cL_law 437 = .ok (.invokevirtual 150, 3) := by decide +kernel
theorem dL_law_440 : decode cL_law 440 = .ok (.istore 6, 2) := by decide +kernel
theorem dL_law_442 : decode cL_law 442 = .ok (.goto 1026, 3) := by decide +kernel
theorem dL_law_445 : decode cL_law 445 = .ok (.aload_n 1, 1) := by decide +kernel
theorem dL_law_446 : decode cL_law 446 = .ok (.aload_n 0, 1) := by decide +kernel
theorem dL_law_447 : decode cL_law 447 = .ok (.iload 4, 2) := by decide +kernel
theorem dL_law_449 : decode cL_law 449 = .ok (.iconst 1, 1) := by decide +kernel
theorem dL_law_450 : decode cL_law 450 = .ok (.iadd, 1) := by decide +kernel
theorem dL_law_451 : decode cL_law 451 = .ok (.iaload, 1) := by decide +kernel
theorem dL_law_452 : decode cL_law 452 = .ok (.aload_n 0, 1) := by decide +kernel
theorem dL_law_453 : decode cL_law 453 = .ok (.iload 4, 2) := by decide +kernel
theorem dL_law_455 : decode cL_law 455 = .ok (.iconst 2, 1) := by decide +kernel
theorem dL_law_456 : decode cL_law 456 = .ok (.iadd, 1) := by decide +kernel
theorem dL_law_457 : decode cL_law 457 = .ok (.iaload, 1) := by decide +kernel
theorem dL_law_458 : decode cL_law 458 = .ok (.aload_n 3, 1) := by decide +kernel
theorem dL_law_459 : decode cL_law 459 = .ok (.invokestatic 151, 3) := by decide +kernel
theorem dL_law_462 : decode cL_law 462 = .ok (.istore 5, 2) := by decide +kernel
theorem dL_law_464 : decode cL_law 464 = .ok (.aload_n 2, 1) := by decide +kernel
theorem dL_law_465 : decode cL_law 465 = .ok (.aload_n 0, 1) := by decide +kernel
theorem dL_law_466 : decode cL_law 466 = .ok (.iload 4, 2) := by decide +kernel
theorem dL_law_468 : decode cL_law 468 = .ok (.iconst 1, 1) := by decide +kernel
theorem dL_law_469 : decode cL_law 469 = .ok (.iadd, 1) := by decide +kernel
theorem dL_law_470 : decode cL_law 470 = .ok (.iaload, 1) := by decide +kernel
theorem dL_law_471 : decode cL_law 471 = .ok (.aload_n 0, 1) := by decide +kernel
theorem dL_law_472 : decode cL_law 472 = .ok (.iload 4, 2) := by decide +kernel
theorem dL_law_474 : decode cL_law 474 = .ok (.iconst 2, 1) := by decide +kernel
theorem dL_law_475 : decode cL_law 475 = .ok (.iadd, 1) := by decide +kernel
theorem dL_law_476 : decode cL_law 476 = .ok (.iaload, 1) := by decide +kernel
theorem dL_law_477 : decode cL_law 477 = .ok (.invokevirtual 154, 3) := by decide +kernel
theorem dL_law_480 : decode cL_law 480 = .ok (.istore 6, 2) := by decide +kernel
theorem dL_law_482 : decode cL_law 482 = .ok (.goto 986, 3) := by decide +kernel
/-! cases of the law: feed, page, fault, lay, tidy, tidied, undo, clear, told, pageOf -/
set_option maxHeartbeats 4000000 in
set_option maxRecDepth 100000 in
theorem lc_feed {p : Program} {l : Launch} {e : Env} {s : State} {m : MethodId} {below : List Frame} {meth : Method} {c : Code} {dC : Nat → ClassId} {dI : Nat → Nat → Nat} {cI cL cII cR cZ cIII cO : ClassId} {h0 b L : Nat} {xs : Nat → Int32} (C0 : lx_C p l s m c b L xs dC dI cI cL cII cR cZ cIII cO h0) {i : Int} (hi : 0 ≤ i ∧ i + 6 ≤ L) {μ ν : va_M} {f : Nat → Int64} (hV : LW9 μ ν) {cells slots : Nat} (hroom : cells + 1 ≤ 601024 ∧ slots + 6 ≤ 7293034)
    (hend : ∀ (μ ν : va_M) (f : Nat → Int64) (H : Heap) (locs : List Loc) (ls : Array Slot), LW9 μ ν → LW dC dI cI cL cII cR cZ cIII cO h0 μ ν f H → va_S (lA h0) s.heap H locs → lv_has ls 7 [(4, .int (iZ i)), (0, .ref b), (1, .ref h0), (2, .ref (h0 + 233)), (3, .ref (h0 + 6558))] → W p l e room_1 s m #[Value.ref b] below meth c H locs (cells + 1) (slots + 6) (lw_Z below #[Value.ref b] s) (F0 m 1468 ls []))
    {H : Heap} {locs : List Loc} {ls : Array Slot} (hW : LW dC dI cI cL cII cR cZ cIII cO h0 μ ν f H) (hS : va_S (lA h0) s.heap H locs) (hl : lv_has ls 7 [(4, .int (iZ i)), (0, .ref b), (1, .ref h0), (2, .ref (h0 + 233)), (3, .ref (h0 + 6558))]) : W p l e room_1 s m #[Value.ref b] below meth c H locs cells slots (lw_Z below #[Value.ref b] s) (F0 m 208 ls []) := by
  obtain ⟨hfl, hx, hb, hml, hown, hts, hX, hbl, hsz0, hL9, hK, hKm, hKo, hM, hEx, hNc⟩ := C0
  obtain ⟨T, Ss, Wk, Bs, hT⟩ := hV
  have hT : LWt T Ss Wk Bs μ ν := hT
  have hT0 := hT
  have hbA : ¬ lA h0 b := Nat.not_le.mpr (by (first | ((try clear hbA); (try clear hT0); (try clear hT); (try clear Bs); (try clear Wk); (try clear Ss); (try clear hend); (try clear hroom); (try clear hi); omega) | omega))
  obtain ⟨a1, e1, ha1⟩ := iZ_ex (xs (iZ (i + 1)).toNatClampNeg)
  obtain ⟨a2, e2, ha2⟩ := iZ_ex (xs (iZ (i + 2)).toNatClampNeg)
  obtain ⟨a3, e3, ha3⟩ := iZ_ex (xs (iZ (i + 3)).toNatClampNeg)
  obtain ⟨a4, e4, ha4⟩ := iZ_ex (xs (iZ (i + 4)).toNatClampNeg)
  obtain ⟨a5, e5, ha5⟩ := iZ_ex (xs (iZ (i + 5)).toNatClampNeg)
  refine lv_aload_n hx hb dL_law_208 rfl (lv_at hl 2 rfl) ?_
  refine lv_aload_n hx hb dL_law_209 rfl (lv_at hl 1 rfl) ?_
  refine lv_iload hx hb dL_law_210 (lv_at hl 0 rfl) ?_
  refine lv_iconst (v := iZ 1) hx hb dL_law_212 rfl ?_
  refine lv_iadd hx hb dL_law_213 ?_
  refine lv_topi (fun x9 ex9 => ?_)
  obtain rfl : x9 = iZ (i + 1) := ex9.trans (iZ_add _ _)
  refine va_sld hx hb hX hbl hbA hS (iZ_in (by (first | ((try clear ex9); (try clear ha5); (try clear e5); (try clear ha4); (try clear e4); (try clear ha3); (try clear e3); (try clear ha2); (try clear e2); (try clear ha1); (try clear e1); (try clear hbA); (try clear hT0); (try clear hT); (try clear Bs); (try clear Wk); (try clear Ss); (try clear hsz0); (try clear hend); (try clear hroom); omega) | omega)) (by (first | ((try clear ex9); (try clear ha5); (try clear e5); (try clear ha4); (try clear e4); (try clear ha3); (try clear e3); (try clear ha2); (try clear e2); (try clear ha1); (try clear e1); (try clear hbA); (try clear hT0); (try clear hT); (try clear Bs); (try clear Wk); (try clear Ss); (try clear hsz0); (try clear hend); (try clear hroom); omega) | omega)) (by (first | ((try clear ex9); (try clear ha5); (try clear e5); (try clear ha4); (try clear e4); (try clear ha3); (try clear e3); (try clear ha2); (try clear e2); (try clear ha1); (try clear e1); (try clear hbA); (try clear hT0); (try clear hT); (try clear Bs); (try clear Wk); (try clear Ss); (try clear hsz0); (try clear hend); (try clear hroom); (try clear hi); omega) | omega))) dL_law_214 ?_
  refine lv_topi (fun x9 ex9 => ?_)
  obtain rfl : x9 = iZ a1 := ex9.trans e1
  refine lv_aload_n hx hb dL_law_215 rfl (lv_at hl 1 rfl) ?_
  refine lv_iload hx hb dL_law_216 (lv_at hl 0 rfl) ?_
  refine lv_iconst (v := iZ 2) hx hb dL_law_218 rfl ?_
  refine lv_iadd hx hb dL_law_219 ?_
  refine lv_topi (fun x9 ex9 => ?_)
  obtain rfl : x9 = iZ (i + 2) := ex9.trans (iZ_add _ _)
  refine va_sld hx hb hX hbl hbA hS (iZ_in (by (first | ((try clear ex9); (try clear ha5); (try clear e5); (try clear ha4); (try clear e4); (try clear ha3); (try clear e3); (try clear ha2); (try clear e2); (try clear ha1); (try clear e1); (try clear hbA); (try clear hT0); (try clear hT); (try clear Bs); (try clear Wk); (try clear Ss); (try clear hsz0); (try clear hend); (try clear hroom); omega) | omega)) (by (first | ((try clear ex9); (try clear ha5); (try clear e5); (try clear ha4); (try clear e4); (try clear ha3); (try clear e3); (try clear ha2); (try clear e2); (try clear ha1); (try clear e1); (try clear hbA); (try clear hT0); (try clear hT); (try clear Bs); (try clear Wk); (try clear Ss); (try clear hsz0); (try clear hend); (try clear hroom); omega) | omega)) (by (first | ((try clear ex9); (try clear ha5); (try clear e5); (try clear ha4); (try clear e4); (try clear ha3); (try clear e3); (try clear ha2); (try clear e2); (try clear ha1); (try clear e1); (try clear hbA); (try clear hT0); (try clear hT); (try clear Bs); (try clear Wk); (try clear Ss); (try clear hsz0); (try clear hend); (try clear hroom); (try clear hi); omega) | omega))) dL_law_220 ?_
  refine lv_topi (fun x9 ex9 => ?_)
  obtain rfl : x9 = iZ a2 := ex9.trans e2
  refine lv_aload_n hx hb dL_law_221 rfl (lv_at hl 1 rfl) ?_
  refine lv_iload hx hb dL_law_222 (lv_at hl 0 rfl) ?_
  refine lv_iconst (v := iZ 3) hx hb dL_law_224 rfl ?_
  refine lv_iadd hx hb dL_law_225 ?_
  refine lv_topi (fun x9 ex9 => ?_)
  obtain rfl : x9 = iZ (i + 3) := ex9.trans (iZ_add _ _)
  refine va_sld hx hb hX hbl hbA hS (iZ_in (by (first | ((try clear ex9); (try clear ha5); (try clear e5); (try clear ha4); (try clear e4); (try clear ha3); (try clear e3); (try clear ha2); (try clear e2); (try clear ha1); (try clear e1); (try clear hbA); (try clear hT0); (try clear hT); (try clear Bs); (try clear Wk); (try clear Ss); (try clear hsz0); (try clear hend); (try clear hroom); omega) | omega)) (by (first | ((try clear ex9); (try clear ha5); (try clear e5); (try clear ha4); (try clear e4); (try clear ha3); (try clear e3); (try clear ha2); (try clear e2); (try clear ha1); (try clear e1); (try clear hbA); (try clear hT0); (try clear hT); (try clear Bs); (try clear Wk); (try clear Ss); (try clear hsz0); (try clear hend); (try clear hroom); omega) | omega)) (by (first | ((try clear ex9); (try clear ha5); (try clear e5); (try clear ha4); (try clear e4); (try clear ha3); (try clear e3); (try clear ha2); (try clear e2); (try clear ha1); (try clear e1); (try clear hbA); (try clear hT0); (try clear hT); (try clear Bs); (try clear Wk); (try clear Ss); (try clear hsz0); (try clear hend); (try clear hroom); (try clear hi); omega) | omega))) dL_law_226 ?_
  refine lv_topi (fun x9 ex9 => ?_)
  obtain rfl : x9 = iZ a3 := ex9.trans e3
  refine lv_aload_n hx hb dL_law_227 rfl (lv_at hl 1 rfl) ?_
  refine lv_iload hx hb dL_law_228 (lv_at hl 0 rfl) ?_
  refine lv_iconst (v := iZ 4) hx hb dL_law_230 rfl ?_
  refine lv_iadd hx hb dL_law_231 ?_
  refine lv_topi (fun x9 ex9 => ?_)
  obtain rfl : x9 = iZ (i + 4) := ex9.trans (iZ_add _ _)
  refine va_sld hx hb hX hbl hbA hS (iZ_in (by (first | ((try clear ex9); (try clear ha5); (try clear e5); (try clear ha4); (try clear e4); (try clear ha3); (try clear e3); (try clear ha2); (try clear e2); (try clear ha1); (try clear e1); (try clear hbA); (try clear hT0); (try clear hT); (try clear Bs); (try clear Wk); (try clear Ss); (try clear hsz0); (try clear hend); (try clear hroom); omega) | omega)) (by (first | ((try clear ex9); (try clear ha5); (try clear e5); (try clear ha4); (try clear e4); (try clear ha3); (try clear e3); (try clear ha2); (try clear e2); (try clear ha1); (try clear e1); (try clear hbA); (try clear hT0); (try clear hT); (try clear Bs); (try clear Wk); (try clear Ss); (try clear hsz0); (try clear hend); (try clear hroom); omega) | omega)) (by (first | ((try clear ex9); (try clear ha5); (try clear e5); (try clear ha4); (try clear e4); (try clear ha3); (try clear e3); (try clear ha2); (try clear e2); (try clear ha1); (try clear e1); (try clear hbA); (try clear hT0); (try clear hT); (try clear Bs); (try clear Wk); (try clear Ss); (try clear hsz0); (try clear hend); (try clear hroom); (try clear hi); omega) | omega))) dL_law_232 ?_
  refine lv_topi (fun x9 ex9 => ?_)
  obtain rfl : x9 = iZ a4 := ex9.trans e4
  refine lv_aload_n hx hb dL_law_233 rfl (lv_at hl 1 rfl) ?_
  refine lv_iload hx hb dL_law_234 (lv_at hl 0 rfl) ?_
  refine lv_iconst (v := iZ 5) hx hb dL_law_236 rfl ?_
  refine lv_iadd hx hb dL_law_237 ?_
  refine lv_topi (fun x9 ex9 => ?_)
  obtain rfl : x9 = iZ (i + 5) := ex9.trans (iZ_add _ _)
  refine va_sld hx hb hX hbl hbA hS (iZ_in (by (first | ((try clear ex9); (try clear ha5); (try clear e5); (try clear ha4); (try clear e4); (try clear ha3); (try clear e3); (try clear ha2); (try clear e2); (try clear ha1); (try clear e1); (try clear hbA); (try clear hT0); (try clear hT); (try clear Bs); (try clear Wk); (try clear Ss); (try clear hsz0); (try clear hend); (try clear hroom); omega) | omega)) (by (first | ((try clear ex9); (try clear ha5); (try clear e5); (try clear ha4); (try clear e4); (try clear ha3); (try clear e3); (try clear ha2); (try clear e2); (try clear ha1); (try clear e1); (try clear hbA); (try clear hT0); (try clear hT); (try clear Bs); (try clear Wk); (try clear Ss); (try clear hsz0); (try clear hend); (try clear hroom); omega) | omega)) (by (first | ((try clear ex9); (try clear ha5); (try clear e5); (try clear ha4); (try clear e4); (try clear ha3); (try clear e3); (try clear ha2); (try clear e2); (try clear ha1); (try clear e1); (try clear hbA); (try clear hT0); (try clear hT); (try clear Bs); (try clear Wk); (try clear Ss); (try clear hsz0); (try clear hend); (try clear hroom); (try clear hi); omega) | omega))) dL_law_238 ?_
  refine lv_topi (fun x9 ex9 => ?_)
  obtain rfl : x9 = iZ a5 := ex9.trans e5
  refine va_calli (va_runV (As := [.int (iZ a1), .int (iZ a2), .int (iZ a3), .int (iZ a4), .int (iZ a5)]) (rest := []) ⟨hx, hb, hml, hown, hts⟩ (s_feed2 l dC dI cI cL cII cR h0 H.size μ a1 a2 a3 a4 a5 ha1 ha2 ha3 ha4 ha5 (hT.1.1.1.1.1).1.1.2.2.1) (cwV 5 hts (gV_G k378 k379 k380 k1 k381) rfl rfl rfl (by decide +kernel) ⟨Nat.le_of_ble_eq_true rfl, Nat.le_of_ble_eq_true rfl⟩) ⟨fun a U g mk q => by obtain ⟨q0, q1, qP, qK, qM⟩ := q; exact ⟨q0, q1, qP, va_K.moved (u := U) (U := U.calling g mk a) (Vm.Alike.refl U.vm) qK, qM⟩, va_recv hK hW.1 (ci := 9) (q0 := 0) rfl ((fw_get (by decide)).trans (by rw [sE_0]; rfl)), fun U hU hW9 => ⟨rfl, by rw [hU], by rw [hU]; exact hW.1, va_K.moved hW9.alike hK, xM_warm hW9 hM⟩⟩ rfl rfl hl.1 rfl (lv_room (Nat.le_of_ble_eq_true rfl)) dL_law_239 ⟨by show cells + 0 ≤ 601024; (first | ((try clear ex9); (try clear ha5); (try clear e5); (try clear ha4); (try clear e4); (try clear ha3); (try clear e3); (try clear ha2); (try clear e2); (try clear ha1); (try clear e1); (try clear hbA); (try clear hT0); (try clear hT); (try clear Bs); (try clear Wk); (try clear Ss); (try clear hsz0); (try clear hend); (try clear hi); omega) | omega), by show slots + 0 ≤ 7293034; (first | ((try clear ex9); (try clear ha5); (try clear e5); (try clear ha4); (try clear e4); (try clear ha3); (try clear e3); (try clear ha2); (try clear e2); (try clear ha1); (try clear e1); (try clear hbA); (try clear hT0); (try clear hT); (try clear Bs); (try clear Wk); (try clear Ss); (try clear hsz0); (try clear hend); (try clear hi); omega) | omega)⟩) hS (fun q _ h => lA_f hS hsz0 (Nat.le_refl _) q h) (lA_f hS hsz0 (Nat.le_refl _)) (fun r1 u9 t9 H1 locs ht9 hvm9 hw9 hB9 hz9 hk9 hS => ?_)
  obtain ⟨hP9, -⟩ := hB9
  rw [ht9] at hP9
  have hW := LW_c hW hk9 hP9
  obtain ⟨u1, q1⟩ := u9
  obtain ⟨er9, hw9⟩ := hw9
  have er1 : r1 = iZ q1 := er9
  subst er1
  have hc := hw9
  try dsimp only at hW hT
  clear hk9 hP9
  generalize H1 = H at hW hS ⊢
  refine lv_pop hx hb dL_law_242 rfl ?_
  refine lv_aload_n hx hb dL_law_243 rfl (lv_at hl 3 rfl) ?_
  refine lv_aload_n hx hb dL_law_244 rfl (lv_at hl 1 rfl) ?_
  refine lv_iload hx hb dL_law_245 (lv_at hl 0 rfl) ?_
  refine lv_iconst (v := iZ 1) hx hb dL_law_247 rfl ?_
  refine lv_iadd hx hb dL_law_248 ?_
  refine lv_topi (fun x9 ex9 => ?_)
  obtain rfl : x9 = iZ (i + 1) := ex9.trans (iZ_add _ _)
  refine va_sld hx hb hX hbl hbA hS (iZ_in (by (first | ((try clear ex9); (try clear hc); (try clear er1); (try clear er9); (try clear u1); (try clear hP9); (try clear hz9); (try clear r1); (try clear ha5); (try clear e5); (try clear ha4); (try clear e4); (try clear ha3); (try clear e3); (try clear ha2); (try clear e2); (try clear ha1); (try clear e1); (try clear hbA); (try clear hT0); (try clear hT); (try clear Bs); (try clear Wk); (try clear Ss); (try clear hsz0); (try clear hend); (try clear hroom); omega) | omega)) (by (first | ((try clear ex9); (try clear hc); (try clear er1); (try clear er9); (try clear u1); (try clear hP9); (try clear hz9); (try clear r1); (try clear ha5); (try clear e5); (try clear ha4); (try clear e4); (try clear ha3); (try clear e3); (try clear ha2); (try clear e2); (try clear ha1); (try clear e1); (try clear hbA); (try clear hT0); (try clear hT); (try clear Bs); (try clear Wk); (try clear Ss); (try clear hsz0); (try clear hend); (try clear hroom); omega) | omega)) (by (first | ((try clear ex9); (try clear hc); (try clear er1); (try clear er9); (try clear u1); (try clear hP9); (try clear hz9); (try clear r1); (try clear ha5); (try clear e5); (try clear ha4); (try clear e4); (try clear ha3); (try clear e3); (try clear ha2); (try clear e2); (try clear ha1); (try clear e1); (try clear hbA); (try clear hT0); (try clear hT); (try clear Bs); (try clear Wk); (try clear Ss); (try clear hsz0); (try clear hend); (try clear hroom); (try clear hi); omega) | omega))) dL_law_249 ?_
  refine lv_topi (fun x9 ex9 => ?_)
  obtain rfl : x9 = iZ a1 := ex9.trans e1
  refine lv_aload_n hx hb dL_law_250 rfl (lv_at hl 1 rfl) ?_
  refine lv_iload hx hb dL_law_251 (lv_at hl 0 rfl) ?_
  refine lv_iconst (v := iZ 2) hx hb dL_law_253 rfl ?_
  refine lv_iadd hx hb dL_law_254 ?_
  refine lv_topi (fun x9 ex9 => ?_)
  obtain rfl : x9 = iZ (i + 2) := ex9.trans (iZ_add _ _)
  refine va_sld hx hb hX hbl hbA hS (iZ_in (by (first | ((try clear ex9); (try clear hc); (try clear er1); (try clear er9); (try clear u1); (try clear hP9); (try clear hz9); (try clear r1); (try clear ha5); (try clear e5); (try clear ha4); (try clear e4); (try clear ha3); (try clear e3); (try clear ha2); (try clear e2); (try clear ha1); (try clear e1); (try clear hbA); (try clear hT0); (try clear hT); (try clear Bs); (try clear Wk); (try clear Ss); (try clear hsz0); (try clear hend); (try clear hroom); omega) | omega)) (by (first | ((try clear ex9); (try clear hc); (try clear er1); (try clear er9); (try clear u1); (try clear hP9); (try clear hz9); (try clear r1); (try clear ha5); (try clear e5); (try clear ha4); (try clear e4); (try clear ha3); (try clear e3); (try clear ha2); (try clear e2); (try clear ha1); (try clear e1); (try clear hbA); (try clear hT0); (try clear hT); (try clear Bs); (try clear Wk); (try clear Ss); (try clear hsz0); (try clear hend); (try clear hroom); omega) | omega)) (by (first | ((try clear ex9); (try clear hc); (try clear er1); (try clear er9); (try clear u1); (try clear hP9); (try clear hz9); (try clear r1); (try clear ha5); (try clear e5); (try clear ha4); (try clear e4); (try clear ha3); (try clear e3); (try clear ha2); (try clear e2); (try clear ha1); (try clear e1); (try clear hbA); (try clear hT0); (try clear hT); (try clear Bs); (try clear Wk); (try clear Ss); (try clear hsz0); (try clear hend); (try clear hroom); (try clear hi); omega) | omega))) dL_law_255 ?_
  refine lv_topi (fun x9 ex9 => ?_)
  obtain rfl : x9 = iZ a2 := ex9.trans e2
  refine lv_aload_n hx hb dL_law_256 rfl (lv_at hl 1 rfl) ?_
  refine lv_iload hx hb dL_law_257 (lv_at hl 0 rfl) ?_
  refine lv_iconst (v := iZ 3) hx hb dL_law_259 rfl ?_
  refine lv_iadd hx hb dL_law_260 ?_
  refine lv_topi (fun x9 ex9 => ?_)
  obtain rfl : x9 = iZ (i + 3) := ex9.trans (iZ_add _ _)
  refine va_sld hx hb hX hbl hbA hS (iZ_in (by (first | ((try clear ex9); (try clear hc); (try clear er1); (try clear er9); (try clear u1); (try clear hP9); (try clear hz9); (try clear r1); (try clear ha5); (try clear e5); (try clear ha4); (try clear e4); (try clear ha3); (try clear e3); (try clear ha2); (try clear e2); (try clear ha1); (try clear e1); (try clear hbA); (try clear hT0); (try clear hT); (try clear Bs); (try clear Wk); (try clear Ss); (try clear hsz0); (try clear hend); (try clear hroom); omega) | omega)) (by (first | ((try clear ex9); (try clear hc); (try clear er1); (try clear er9); (try clear u1); (try clear hP9); (try clear hz9); (try clear r1); (try clear ha5); (try clear e5); (try clear ha4); (try clear e4); (try clear ha3); (try clear e3); (try clear ha2); (try clear e2); (try clear ha1); (try clear e1); (try clear hbA); (try clear hT0); (try clear hT); (try clear Bs); (try clear Wk); (try clear Ss); (try clear hsz0); (try clear hend); (try clear hroom); omega) | omega)) (by (first | ((try clear ex9); (try clear hc); (try clear er1); (try clear er9); (try clear u1); (try clear hP9); (try clear hz9); (try clear r1); (try clear ha5); (try clear e5); (try clear ha4); (try clear e4); (try clear ha3); (try clear e3); (try clear ha2); (try clear e2); (try clear ha1); (try clear e1); (try clear hbA); (try clear hT0); (try clear hT); (try clear Bs); (try clear Wk); (try clear Ss); (try clear hsz0); (try clear hend); (try clear hroom); (try clear hi); omega) | omega))) dL_law_261 ?_
  refine lv_topi (fun x9 ex9 => ?_)
  obtain rfl : x9 = iZ a3 := ex9.trans e3
  refine lv_aload_n hx hb dL_law_262 rfl (lv_at hl 1 rfl) ?_
  refine lv_iload hx hb dL_law_263 (lv_at hl 0 rfl) ?_
  refine lv_iconst (v := iZ 4) hx hb dL_law_265 rfl ?_
  refine lv_iadd hx hb dL_law_266 ?_
  refine lv_topi (fun x9 ex9 => ?_)
  obtain rfl : x9 = iZ (i + 4) := ex9.trans (iZ_add _ _)
  refine va_sld hx hb hX hbl hbA hS (iZ_in (by (first | ((try clear ex9); (try clear hc); (try clear er1); (try clear er9); (try clear u1); (try clear hP9); (try clear hz9); (try clear r1); (try clear ha5); (try clear e5); (try clear ha4); (try clear e4); (try clear ha3); (try clear e3); (try clear ha2); (try clear e2); (try clear ha1); (try clear e1); (try clear hbA); (try clear hT0); (try clear hT); (try clear Bs); (try clear Wk); (try clear Ss); (try clear hsz0); (try clear hend); (try clear hroom); omega) | omega)) (by (first | ((try clear ex9); (try clear hc); (try clear er1); (try clear er9); (try clear u1); (try clear hP9); (try clear hz9); (try clear r1); (try clear ha5); (try clear e5); (try clear ha4); (try clear e4); (try clear ha3); (try clear e3); (try clear ha2); (try clear e2); (try clear ha1); (try clear e1); (try clear hbA); (try clear hT0); (try clear hT); (try clear Bs); (try clear Wk); (try clear Ss); (try clear hsz0); (try clear hend); (try clear hroom); omega) | omega)) (by (first | ((try clear ex9); (try clear hc); (try clear er1); (try clear er9); (try clear u1); (try clear hP9); (try clear hz9); (try clear r1); (try clear ha5); (try clear e5); (try clear ha4); (try clear e4); (try clear ha3); (try clear e3); (try clear ha2); (try clear e2); (try clear ha1); (try clear e1); (try clear hbA); (try clear hT0); (try clear hT); (try clear Bs); (try clear Wk); (try clear Ss); (try clear hsz0); (try clear hend); (try clear hroom); (try clear hi); omega) | omega))) dL_law_267 ?_
  refine lv_topi (fun x9 ex9 => ?_)
  obtain rfl : x9 = iZ a4 := ex9.trans e4
  refine lv_aload_n hx hb dL_law_268 rfl (lv_at hl 1 rfl) ?_
  refine lv_iload hx hb dL_law_269 (lv_at hl 0 rfl) ?_
  refine lv_iconst (v := iZ 5) hx hb dL_law_271 rfl ?_
  refine lv_iadd hx hb dL_law_272 ?_
  refine lv_topi (fun x9 ex9 => ?_)
  obtain rfl : x9 = iZ (i + 5) := ex9.trans (iZ_add _ _)
  refine va_sld hx hb hX hbl hbA hS (iZ_in (by (first | ((try clear ex9); (try clear hc); (try clear er1); (try clear er9); (try clear u1); (try clear hP9); (try clear hz9); (try clear r1); (try clear ha5); (try clear e5); (try clear ha4); (try clear e4); (try clear ha3); (try clear e3); (try clear ha2); (try clear e2); (try clear ha1); (try clear e1); (try clear hbA); (try clear hT0); (try clear hT); (try clear Bs); (try clear Wk); (try clear Ss); (try clear hsz0); (try clear hend); (try clear hroom); omega) | omega)) (by (first | ((try clear ex9); (try clear hc); (try clear er1); (try clear er9); (try clear u1); (try clear hP9); (try clear hz9); (try clear r1); (try clear ha5); (try clear e5); (try clear ha4); (try clear e4); (try clear ha3); (try clear e3); (try clear ha2); (try clear e2); (try clear ha1); (try clear e1); (try clear hbA); (try clear hT0); (try clear hT); (try clear Bs); (try clear Wk); (try clear Ss); (try clear hsz0); (try clear hend); (try clear hroom); omega) | omega)) (by (first | ((try clear ex9); (try clear hc); (try clear er1); (try clear er9); (try clear u1); (try clear hP9); (try clear hz9); (try clear r1); (try clear ha5); (try clear e5); (try clear ha4); (try clear e4); (try clear ha3); (try clear e3); (try clear ha2); (try clear e2); (try clear ha1); (try clear e1); (try clear hbA); (try clear hT0); (try clear hT); (try clear Bs); (try clear Wk); (try clear Ss); (try clear hsz0); (try clear hend); (try clear hroom); (try clear hi); omega) | omega))) dL_law_273 ?_
  refine lv_topi (fun x9 ex9 => ?_)
  obtain rfl : x9 = iZ a5 := ex9.trans e5
  refine va_calli (va_runV (As := [.int (iZ a1), .int (iZ a2), .int (iZ a3), .int (iZ a4), .int (iZ a5)]) (rest := []) ⟨hx, hb, hml, hown, hts⟩ (m_feed l dC dI cI cZ cII cIII (h0 + 233) H.size ν a1 a2 a3 a4 a5 ha1 ha2 ha3 ha4 ha5 (by rw [← (hT.1.1.1.1).2.2.2.2.1]; exact (hT.1.1.1.1.1).1.1.2.2.1)) (cwV 5 hts (gV_G k1331 k1332 k1333 k13 k1334) rfl rfl rfl (by decide +kernel) ⟨Nat.le_of_ble_eq_true rfl, Nat.le_of_ble_eq_true rfl⟩) ⟨fun a U g mk q => by obtain ⟨q0, q1, qP, qK⟩ := q; exact ⟨q0, q1, qP, va_K.moved (u := U) (U := U.calling g mk a) (Vm.Alike.refl U.vm) qK⟩, va_recv hKm hW.2.1 (ci := 10) (q0 := 0) rfl ((fw_get (by decide)).trans (by rw [mE_obj])), fun U hU hW9 => ⟨rfl, by rw [hU], by rw [hU]; exact hW.2.1, va_K.moved hW9.alike hKm⟩⟩ rfl rfl hl.1 rfl (lv_room (Nat.le_of_ble_eq_true rfl)) dL_law_274 ⟨by show cells + 0 ≤ 601024; (first | ((try clear ex9); (try clear hc); (try clear er1); (try clear er9); (try clear u1); (try clear hP9); (try clear hz9); (try clear r1); (try clear ha5); (try clear e5); (try clear ha4); (try clear e4); (try clear ha3); (try clear e3); (try clear ha2); (try clear e2); (try clear ha1); (try clear e1); (try clear hbA); (try clear hT0); (try clear hT); (try clear Bs); (try clear Wk); (try clear Ss); (try clear hsz0); (try clear hend); (try clear hi); omega) | omega), by show slots + 0 ≤ 7293034; (first | ((try clear ex9); (try clear hc); (try clear er1); (try clear er9); (try clear u1); (try clear hP9); (try clear hz9); (try clear r1); (try clear ha5); (try clear e5); (try clear ha4); (try clear e4); (try clear ha3); (try clear e3); (try clear ha2); (try clear e2); (try clear ha1); (try clear e1); (try clear hbA); (try clear hT0); (try clear hT); (try clear Bs); (try clear Wk); (try clear Ss); (try clear hsz0); (try clear hend); (try clear hi); omega) | omega)⟩) hS (fun q _ h => lA_f hS hsz0 (by (first | ((try clear h); (try clear ex9); (try clear hc); (try clear er1); (try clear er9); (try clear u1); (try clear hP9); (try clear hz9); (try clear r1); (try clear ha5); (try clear e5); (try clear ha4); (try clear e4); (try clear ha3); (try clear e3); (try clear ha2); (try clear e2); (try clear ha1); (try clear e1); (try clear hbA); (try clear hT0); (try clear hT); (try clear Bs); (try clear Wk); (try clear Ss); (try clear hsz0); (try clear hend); (try clear hroom); (try clear hi); omega) | omega)) q h) (lA_f hS hsz0 (by (first | ((try clear ex9); (try clear hc); (try clear er1); (try clear er9); (try clear u1); (try clear hP9); (try clear hz9); (try clear r1); (try clear ha5); (try clear e5); (try clear ha4); (try clear e4); (try clear ha3); (try clear e3); (try clear ha2); (try clear e2); (try clear ha1); (try clear e1); (try clear hbA); (try clear hT0); (try clear hT); (try clear Bs); (try clear Wk); (try clear Ss); (try clear hsz0); (try clear hend); (try clear hroom); (try clear hi); omega) | omega))) (fun r2 u9 t9 H1 locs ht9 hvm9 hw9 hB9 hz9 hk9 hS => ?_)
  obtain ⟨hP9, -⟩ := hB9
  rw [ht9] at hP9
  have hW := LW_m hW hk9 hP9
  obtain ⟨v1, q2⟩ := u9
  obtain ⟨er9, hw9⟩ := hw9
  have er2 : r2 = iZ q2 := er9
  subst er2
  have hm := hw9
  try dsimp only at hW hT
  clear hk9 hP9
  generalize H1 = H at hW hS ⊢
  refine lv_pop hx hb dL_law_277 rfl ?_
  refine lv_goto (tgt := 1468) hx hb dL_law_278 (by decide) ?_
  have hV9 := (LWt_feed hT hc hm).2
  have hV9 : LW9 u1 v1 := ⟨T, Ss, Wk, Bs, hV9⟩
  refine W.widen (k := cells + 1) (n := slots + 6) (by (first | ((try clear hV9); (try clear hm); (try clear er2); (try clear er9); (try clear q2); (try clear v1); (try clear hP9); (try clear hz9); (try clear r2); (try clear ex9); (try clear hc); (try clear er1); (try clear u1); (try clear r1); (try clear ha5); (try clear e5); (try clear ha4); (try clear e4); (try clear ha3); (try clear e3); (try clear ha2); (try clear e2); (try clear ha1); (try clear e1); (try clear hbA); (try clear hT0); (try clear hT); (try clear Bs); (try clear Wk); (try clear Ss); (try clear hsz0); (try clear hend); (try clear hroom); (try clear hi); omega) | omega)) (by (first | ((try clear hV9); (try clear hm); (try clear er2); (try clear er9); (try clear q2); (try clear v1); (try clear hP9); (try clear hz9); (try clear r2); (try clear ex9); (try clear hc); (try clear er1); (try clear u1); (try clear r1); (try clear ha5); (try clear e5); (try clear ha4); (try clear e4); (try clear ha3); (try clear e3); (try clear ha2); (try clear e2); (try clear ha1); (try clear e1); (try clear hbA); (try clear hT0); (try clear hT); (try clear Bs); (try clear Wk); (try clear Ss); (try clear hsz0); (try clear hend); (try clear hroom); (try clear hi); omega) | omega)) ?_
  exact hend _ _ _ H locs ls hV9 hW hS (lv_sub hl [0, 1, 2, 3, 4] rfl)
set_option maxHeartbeats 4000000 in
set_option maxRecDepth 100000 in
theorem lc_page {p : Program} {l : Launch} {e : Env} {s : State} {m : MethodId} {below : List Frame} {meth : Method} {c : Code} {dC : Nat → ClassId} {dI : Nat → Nat → Nat} {cI cL cII cR cZ cIII cO : ClassId} {h0 b L : Nat} {xs : Nat → Int32} (C0 : lx_C p l s m c b L xs dC dI cI cL cII cR cZ cIII cO h0) {i : Int} (hi : 0 ≤ i ∧ i + 6 ≤ L) {μ ν : va_M} {f : Nat → Int64} (hV : LW9 μ ν) {cells slots : Nat} (hroom : cells + 1 ≤ 601024 ∧ slots + 6 ≤ 7293034)
    (hend : ∀ (μ ν : va_M) (f : Nat → Int64) (H : Heap) (locs : List Loc) (ls : Array Slot), LW9 μ ν → LW dC dI cI cL cII cR cZ cIII cO h0 μ ν f H → va_S (lA h0) s.heap H locs → lv_has ls 7 [(4, .int (iZ i)), (0, .ref b), (1, .ref h0), (2, .ref (h0 + 233)), (3, .ref (h0 + 6558))] → W p l e room_1 s m #[Value.ref b] below meth c H locs (cells + 1) (slots + 6) (lw_Z below #[Value.ref b] s) (F0 m 1468 ls []))
    {H : Heap} {locs : List Loc} {ls : Array Slot} (hW : LW dC dI cI cL cII cR cZ cIII cO h0 μ ν f H) (hS : va_S (lA h0) s.heap H locs) (hl : lv_has ls 7 [(4, .int (iZ i)), (0, .ref b), (1, .ref h0), (2, .ref (h0 + 233)), (3, .ref (h0 + 6558))]) : W p l e room_1 s m #[Value.ref b] below meth c H locs cells slots (lw_Z below #[Value.ref b] s) (F0 m 281 ls []) := by
  obtain ⟨hfl, hx, hb, hml, hown, hts, hX, hbl, hsz0, hL9, hK, hKm, hKo, hM, hEx, hNc⟩ := C0
  obtain ⟨T, Ss, Wk, Bs, hT⟩ := hV
  have hT : LWt T Ss Wk Bs μ ν := hT
  have hT0 := hT
  have hbA : ¬ lA h0 b := Nat.not_le.mpr (by (first | ((try clear hbA); (try clear hT0); (try clear hT); (try clear Bs); (try clear Wk); (try clear Ss); (try clear hend); (try clear hroom); (try clear hi); omega) | omega))
  obtain ⟨a1, e1, ha1⟩ := iZ_ex (xs (iZ (i + 1)).toNatClampNeg)
  refine lv_aload_n hx hb dL_law_281 rfl (lv_at hl 2 rfl) ?_
  refine lv_aload_n hx hb dL_law_282 rfl (lv_at hl 1 rfl) ?_
  refine lv_iload hx hb dL_law_283 (lv_at hl 0 rfl) ?_
  refine lv_iconst (v := iZ 1) hx hb dL_law_285 rfl ?_
  refine lv_iadd hx hb dL_law_286 ?_
  refine lv_topi (fun x9 ex9 => ?_)
  obtain rfl : x9 = iZ (i + 1) := ex9.trans (iZ_add _ _)
  refine va_sld hx hb hX hbl hbA hS (iZ_in (by (first | ((try clear ex9); (try clear ha1); (try clear e1); (try clear hbA); (try clear hT0); (try clear hT); (try clear Bs); (try clear Wk); (try clear Ss); (try clear hsz0); (try clear hend); (try clear hroom); omega) | omega)) (by (first | ((try clear ex9); (try clear ha1); (try clear e1); (try clear hbA); (try clear hT0); (try clear hT); (try clear Bs); (try clear Wk); (try clear Ss); (try clear hsz0); (try clear hend); (try clear hroom); omega) | omega)) (by (first | ((try clear ex9); (try clear ha1); (try clear e1); (try clear hbA); (try clear hT0); (try clear hT); (try clear Bs); (try clear Wk); (try clear Ss); (try clear hsz0); (try clear hend); (try clear hroom); (try clear hi); omega) | omega))) dL_law_287 ?_
  refine lv_topi (fun x9 ex9 => ?_)
  obtain rfl : x9 = iZ a1 := ex9.trans e1
  refine lv_aload_n hx hb dL_law_288 rfl (lv_at hl 4 rfl) ?_
  refine va_calli (vx_runSW (hh := [(0, 9, 12, 13), (0, 9, 15, 15)]) (As := [.ref h0, .int (iZ a1), .ref (h0 + 6558)]) (rest := []) ⟨hx, hb, hml, hown, hts⟩ (w_page l hfl dC dI cI cL cII cR cO h0 (h0 + 6558) H.size μ f a1 T (hT.1.1.1.1.1) ha1 (by (first | ((try clear ex9); (try clear ha1); (try clear e1); (try clear hbA); (try clear hT0); (try clear hT); (try clear Bs); (try clear Wk); (try clear Ss); (try clear hsz0); (try clear hend); (try clear hroom); (try clear hi); omega) | omega))) (vx_cwSW 3 hts (gW_G k587 k588 k0 k589) rfl rfl rfl (by decide +kernel) ⟨Nat.le_of_ble_eq_true rfl, Nat.le_of_ble_eq_true rfl⟩) ⟨fun a U g mk q => by obtain ⟨q0, q1, qP, qO, qK, qKo, qM, qE, qN⟩ := q; exact ⟨q0, q1, qP, qO, va_K.moved (u := U) (U := U.calling g mk a) (Vm.Alike.refl U.vm) qK, va_K.moved (u := U) (U := U.calling g mk a) (Vm.Alike.refl U.vm) qKo, qM, xX_call qE, qN⟩, fun U hU hW9 => ⟨rfl, by rw [hU], by rw [hU]; exact hW.1, by rw [hU]; exact hW.2.2, va_K.moved hW9.alike hK, va_K.moved hW9.alike hKo, xM_warm hW9 hM, xX_at hEx hS (fun q h => lA_w hS hsz0 (by (first | ((try clear h); (try clear q); (try clear hU); (try clear U); (try clear mk); (try clear g); (try clear ex9); (try clear ha1); (try clear e1); (try clear hbA); (try clear hT0); (try clear hT); (try clear Bs); (try clear Wk); (try clear Ss); (try clear hsz0); (try clear hend); (try clear hroom); (try clear hi); omega) | omega)) q h) hU hW9, xNC_warm hW9 hNc⟩⟩ rfl rfl hl.1 rfl (lv_room (Nat.le_of_ble_eq_true rfl)) dL_law_289 ⟨by show cells + 1 ≤ 601024; (first | ((try clear ex9); (try clear ha1); (try clear e1); (try clear hbA); (try clear hT0); (try clear hT); (try clear Bs); (try clear Wk); (try clear Ss); (try clear hsz0); (try clear hend); (try clear hi); omega) | omega), by show slots + 6 ≤ 7293034; (first | ((try clear ex9); (try clear ha1); (try clear e1); (try clear hbA); (try clear hT0); (try clear hT); (try clear Bs); (try clear Wk); (try clear Ss); (try clear hsz0); (try clear hend); (try clear hi); omega) | omega)⟩) hS (fun q _ h => lA_w hS hsz0 (by (first | ((try clear h); (try clear ex9); (try clear ha1); (try clear e1); (try clear hbA); (try clear hT0); (try clear hT); (try clear Bs); (try clear Wk); (try clear Ss); (try clear hsz0); (try clear hend); (try clear hroom); (try clear hi); omega) | omega)) q h) (lA_w hS hsz0 (by (first | ((try clear ex9); (try clear ha1); (try clear e1); (try clear hbA); (try clear hT0); (try clear hT); (try clear Bs); (try clear Wk); (try clear Ss); (try clear hsz0); (try clear hend); (try clear hroom); (try clear hi); omega) | omega))) (fun r1 u9 t9 H1 locs ht9 hvm9 hw9 hB9 hz9 hk9 hS => ?_)
  obtain ⟨hP9, hO9⟩ := hB9
  rw [ht9] at hP9 hO9
  have hW := LW_w hW hk9 hP9 hO9
  have hc : PKC T μ a1 u9.1 := hw9
  obtain ⟨u1, f1⟩ := u9
  try dsimp only at hW hT
  clear hk9 hP9 hO9
  generalize H1 = H at hW hS ⊢
  refine lv_istore (lv' := [(5, .int r1), (4, .int (iZ i)), (0, .ref b), (1, .ref h0), (2, .ref (h0 + 233)), (3, .ref (h0 + 6558))]) hx hb dL_law_292 hl (by decide) rfl (fun ls hl => ?_)
  refine lv_aload_n hx hb dL_law_294 rfl (lv_at hl 4 rfl) ?_
  refine lv_aload_n hx hb dL_law_295 rfl (lv_at hl 2 rfl) ?_
  refine lv_iload hx hb dL_law_296 (lv_at hl 1 rfl) ?_
  refine lv_iconst (v := iZ 1) hx hb dL_law_298 rfl ?_
  refine lv_iadd hx hb dL_law_299 ?_
  refine lv_topi (fun x9 ex9 => ?_)
  obtain rfl : x9 = iZ (i + 1) := ex9.trans (iZ_add _ _)
  refine va_sld hx hb hX hbl hbA hS (iZ_in (by (first | ((try clear ex9); (try clear f1); (try clear u1); (try clear hO9); (try clear hP9); (try clear hz9); (try clear r1); (try clear ha1); (try clear e1); (try clear hbA); (try clear hT0); (try clear hT); (try clear Bs); (try clear Wk); (try clear Ss); (try clear hsz0); (try clear hend); (try clear hroom); omega) | omega)) (by (first | ((try clear ex9); (try clear f1); (try clear u1); (try clear hO9); (try clear hP9); (try clear hz9); (try clear r1); (try clear ha1); (try clear e1); (try clear hbA); (try clear hT0); (try clear hT); (try clear Bs); (try clear Wk); (try clear Ss); (try clear hsz0); (try clear hend); (try clear hroom); omega) | omega)) (by (first | ((try clear ex9); (try clear f1); (try clear u1); (try clear hO9); (try clear hP9); (try clear hz9); (try clear r1); (try clear ha1); (try clear e1); (try clear hbA); (try clear hT0); (try clear hT); (try clear Bs); (try clear Wk); (try clear Ss); (try clear hsz0); (try clear hend); (try clear hroom); (try clear hi); omega) | omega))) dL_law_300 ?_
  refine lv_topi (fun x9 ex9 => ?_)
  obtain rfl : x9 = iZ a1 := ex9.trans e1
  refine va_calli (va_runV (As := [.int (iZ a1)]) (rest := []) ⟨hx, hb, hml, hown, hts⟩ (m_page2 l dC dI cI cZ cII cIII (h0 + 233) H.size ν a1 T ha1 (fun j hj => by rw [← (hT.1.1.1.1).2.2.2.2.2.2 j hj]; exact (hT.1.1.1.1.1).1.1.2.1 j) (by rw [← (hT.1.1.1.1).2.2.2.2.1]; exact (hT.1.1.1.1.1).1.1.2.2.1) hT.1.1.1.1.2.1.1.1 hT.1.1.1.1.2.2.1 hT.1.1.1.1.2.2.2.1.1 hT.1.1.1.1.2.1.1.2.2.1) (cwV 1 hts (gV_G k1335 k1336 k1337 k13 k1338) rfl rfl rfl (by decide +kernel) ⟨Nat.le_of_ble_eq_true rfl, Nat.le_of_ble_eq_true rfl⟩) ⟨fun a U g mk q => by obtain ⟨q0, q1, qP, qK⟩ := q; exact ⟨q0, q1, qP, va_K.moved (u := U) (U := U.calling g mk a) (Vm.Alike.refl U.vm) qK⟩, va_recv hKm hW.2.1 (ci := 10) (q0 := 0) rfl ((fw_get (by decide)).trans (by rw [mE_obj])), fun U hU hW9 => ⟨rfl, by rw [hU], by rw [hU]; exact hW.2.1, va_K.moved hW9.alike hKm⟩⟩ rfl rfl hl.1 rfl (lv_room (Nat.le_of_ble_eq_true rfl)) dL_law_301 ⟨by show cells + 1 + 0 ≤ 601024; (first | ((try clear ex9); (try clear f1); (try clear u1); (try clear hO9); (try clear hP9); (try clear hz9); (try clear r1); (try clear ha1); (try clear e1); (try clear hbA); (try clear hT0); (try clear hT); (try clear Bs); (try clear Wk); (try clear Ss); (try clear hsz0); (try clear hend); (try clear hi); omega) | omega), by show slots + 6 + 0 ≤ 7293034; (first | ((try clear ex9); (try clear f1); (try clear u1); (try clear hO9); (try clear hP9); (try clear hz9); (try clear r1); (try clear ha1); (try clear e1); (try clear hbA); (try clear hT0); (try clear hT); (try clear Bs); (try clear Wk); (try clear Ss); (try clear hsz0); (try clear hend); (try clear hi); omega) | omega)⟩) hS (fun q _ h => lA_f hS hsz0 (by (first | ((try clear h); (try clear ex9); (try clear f1); (try clear u1); (try clear hO9); (try clear hP9); (try clear hz9); (try clear r1); (try clear ha1); (try clear e1); (try clear hbA); (try clear hT0); (try clear hT); (try clear Bs); (try clear Wk); (try clear Ss); (try clear hsz0); (try clear hend); (try clear hroom); (try clear hi); omega) | omega)) q h) (lA_f hS hsz0 (by (first | ((try clear ex9); (try clear f1); (try clear u1); (try clear hO9); (try clear hP9); (try clear hz9); (try clear r1); (try clear ha1); (try clear e1); (try clear hbA); (try clear hT0); (try clear hT); (try clear Bs); (try clear Wk); (try clear Ss); (try clear hsz0); (try clear hend); (try clear hroom); (try clear hi); omega) | omega))) (fun r2 u9 t9 H1 locs ht9 hvm9 hw9 hB9 hz9 hk9 hS => ?_)
  obtain ⟨hP9, -⟩ := hB9
  rw [ht9] at hP9
  have hW := LW_m hW hk9 hP9
  obtain ⟨v1, q2⟩ := u9
  obtain ⟨er9, hw9⟩ := hw9
  have er2 : r2 = iZ q2 := er9
  subst er2
  have hm := hw9
  try dsimp only at hW hT
  clear hk9 hP9
  generalize H1 = H at hW hS ⊢
  refine lv_istore (lv' := [(6, .int (iZ q2)), (5, .int r1), (4, .int (iZ i)), (0, .ref b), (1, .ref h0), (2, .ref (h0 + 233)), (3, .ref (h0 + 6558))]) hx hb dL_law_304 hl (by decide) rfl (fun ls hl => ?_)
  refine lv_goto (tgt := 1468) hx hb dL_law_306 (by decide) ?_
  have hV9 := LWt_page hT hc hm
  refine W.widen (k := cells + 1) (n := slots + 6) (by (first | ((try clear hV9); (try clear hm); (try clear er2); (try clear er9); (try clear q2); (try clear v1); (try clear hP9); (try clear hz9); (try clear r2); (try clear ex9); (try clear f1); (try clear u1); (try clear hO9); (try clear r1); (try clear ha1); (try clear e1); (try clear hbA); (try clear hT0); (try clear hT); (try clear Bs); (try clear Wk); (try clear Ss); (try clear hsz0); (try clear hend); (try clear hroom); (try clear hi); omega) | omega)) (by (first | ((try clear hV9); (try clear hm); (try clear er2); (try clear er9); (try clear q2); (try clear v1); (try clear hP9); (try clear hz9); (try clear r2); (try clear ex9); (try clear f1); (try clear u1); (try clear hO9); (try clear r1); (try clear ha1); (try clear e1); (try clear hbA); (try clear hT0); (try clear hT); (try clear Bs); (try clear Wk); (try clear Ss); (try clear hsz0); (try clear hend); (try clear hroom); (try clear hi); omega) | omega)) ?_
  exact hend _ _ _ H locs ls hV9 hW hS (lv_sub hl [2, 3, 4, 5, 6] rfl)
set_option maxHeartbeats 4000000 in
set_option maxRecDepth 100000 in
theorem lc_fault {p : Program} {l : Launch} {e : Env} {s : State} {m : MethodId} {below : List Frame} {meth : Method} {c : Code} {dC : Nat → ClassId} {dI : Nat → Nat → Nat} {cI cL cII cR cZ cIII cO : ClassId} {h0 b L : Nat} {xs : Nat → Int32} (C0 : lx_C p l s m c b L xs dC dI cI cL cII cR cZ cIII cO h0) {i : Int} (hi : 0 ≤ i ∧ i + 6 ≤ L) {μ ν : va_M} {f : Nat → Int64} (hV : LW9 μ ν) {cells slots : Nat} (hroom : cells + 1 ≤ 601024 ∧ slots + 6 ≤ 7293034)
    (hend : ∀ (μ ν : va_M) (f : Nat → Int64) (H : Heap) (locs : List Loc) (ls : Array Slot), LW9 μ ν → LW dC dI cI cL cII cR cZ cIII cO h0 μ ν f H → va_S (lA h0) s.heap H locs → lv_has ls 7 [(4, .int (iZ i)), (0, .ref b), (1, .ref h0), (2, .ref (h0 + 233)), (3, .ref (h0 + 6558))] → W p l e room_1 s m #[Value.ref b] below meth c H locs (cells + 1) (slots + 6) (lw_Z below #[Value.ref b] s) (F0 m 1468 ls []))
    {H : Heap} {locs : List Loc} {ls : Array Slot} (hW : LW dC dI cI cL cII cR cZ cIII cO h0 μ ν f H) (hS : va_S (lA h0) s.heap H locs) (hl : lv_has ls 7 [(4, .int (iZ i)), (0, .ref b), (1, .ref h0), (2, .ref (h0 + 233)), (3, .ref (h0 + 6558))]) : W p l e room_1 s m #[Value.ref b] below meth c H locs cells slots (lw_Z below #[Value.ref b] s) (F0 m 309 ls []) := by
  obtain ⟨hfl, hx, hb, hml, hown, hts, hX, hbl, hsz0, hL9, hK, hKm, hKo, hM, hEx, hNc⟩ := C0
  obtain ⟨T, Ss, Wk, Bs, hT⟩ := hV
  have hT : LWt T Ss Wk Bs μ ν := hT
  have hT0 := hT
  have hbA : ¬ lA h0 b := Nat.not_le.mpr (by (first | ((try clear hbA); (try clear hT0); (try clear hT); (try clear Bs); (try clear Wk); (try clear Ss); (try clear hend); (try clear hroom); (try clear hi); omega) | omega))
  refine lv_aload_n hx hb dL_law_309 rfl (lv_at hl 2 rfl) ?_
  refine va_calli (va_runV (As := []) (rest := []) ⟨hx, hb, hml, hown, hts⟩ (q_fault l dC dI cI cL cII cR h0 H.size μ  T (hT.1.1.1.1.1) ) (cwV 0 hts (gV_G k386 k387 k388 k1 k389) rfl rfl rfl (by decide +kernel) ⟨Nat.le_of_ble_eq_true rfl, Nat.le_of_ble_eq_true rfl⟩) ⟨fun a U g mk q => by obtain ⟨q0, q1, qP, qK, qM⟩ := q; exact ⟨q0, q1, qP, va_K.moved (u := U) (U := U.calling g mk a) (Vm.Alike.refl U.vm) qK, qM⟩, va_recv hK hW.1 (ci := 9) (q0 := 0) rfl ((fw_get (by decide)).trans (by rw [sE_0]; rfl)), fun U hU hW9 => ⟨rfl, by rw [hU], by rw [hU]; exact hW.1, va_K.moved hW9.alike hK, xM_warm hW9 hM⟩⟩ rfl rfl hl.1 rfl (lv_room (Nat.le_of_ble_eq_true rfl)) dL_law_310 ⟨by show cells + 0 ≤ 601024; (first | ((try clear hbA); (try clear hT0); (try clear hT); (try clear Bs); (try clear Wk); (try clear Ss); (try clear hsz0); (try clear hend); (try clear hi); omega) | omega), by show slots + 0 ≤ 7293034; (first | ((try clear hbA); (try clear hT0); (try clear hT); (try clear Bs); (try clear Wk); (try clear Ss); (try clear hsz0); (try clear hend); (try clear hi); omega) | omega)⟩) hS (fun q _ h => lA_f hS hsz0 (Nat.le_refl _) q h) (lA_f hS hsz0 (Nat.le_refl _)) (fun r1 u9 t9 H1 locs ht9 hvm9 hw9 hB9 hz9 hk9 hS => ?_)
  obtain ⟨hP9, -⟩ := hB9
  rw [ht9] at hP9
  have hW := LW_c hW hk9 hP9
  obtain ⟨u1, q1⟩ := u9
  obtain ⟨er9, hw9⟩ := hw9
  have er1 : r1 = iZ q1 := er9
  subst er1
  have hT := LWt_c hT hw9
  try dsimp only at hW hT
  clear hk9 hP9
  generalize H1 = H at hW hS ⊢
  refine lv_pop hx hb dL_law_313 rfl ?_
  refine lv_aload_n hx hb dL_law_314 rfl (lv_at hl 3 rfl) ?_
  refine va_calli (va_runV (As := []) (rest := []) ⟨hx, hb, hml, hown, hts⟩ (m_fault l dC dI cI cZ cII cIII (h0 + 233) H.size ν ) (cwV 0 hts (gV_G k1432 k1433 k1434 k13 k1435) rfl rfl rfl (by decide +kernel) ⟨Nat.le_of_ble_eq_true rfl, Nat.le_of_ble_eq_true rfl⟩) ⟨fun a U g mk q => by obtain ⟨q0, q1, qP, qK⟩ := q; exact ⟨q0, q1, qP, va_K.moved (u := U) (U := U.calling g mk a) (Vm.Alike.refl U.vm) qK⟩, va_recv hKm hW.2.1 (ci := 10) (q0 := 0) rfl ((fw_get (by decide)).trans (by rw [mE_obj])), fun U hU hW9 => ⟨rfl, by rw [hU], by rw [hU]; exact hW.2.1, va_K.moved hW9.alike hKm⟩⟩ rfl rfl hl.1 rfl (lv_room (Nat.le_of_ble_eq_true rfl)) dL_law_315 ⟨by show cells + 0 ≤ 601024; (first | ((try clear hT); (try clear er1); (try clear er9); (try clear u1); (try clear hP9); (try clear hz9); (try clear r1); (try clear hbA); (try clear hT0); (try clear Bs); (try clear Wk); (try clear Ss); (try clear hsz0); (try clear hend); (try clear hi); omega) | omega), by show slots + 0 ≤ 7293034; (first | ((try clear hT); (try clear er1); (try clear er9); (try clear u1); (try clear hP9); (try clear hz9); (try clear r1); (try clear hbA); (try clear hT0); (try clear Bs); (try clear Wk); (try clear Ss); (try clear hsz0); (try clear hend); (try clear hi); omega) | omega)⟩) hS (fun q _ h => lA_f hS hsz0 (by (first | ((try clear h); (try clear hT); (try clear er1); (try clear er9); (try clear u1); (try clear hP9); (try clear hz9); (try clear r1); (try clear hbA); (try clear hT0); (try clear Bs); (try clear Wk); (try clear Ss); (try clear hsz0); (try clear hend); (try clear hroom); (try clear hi); omega) | omega)) q h) (lA_f hS hsz0 (by (first | ((try clear hT); (try clear er1); (try clear er9); (try clear u1); (try clear hP9); (try clear hz9); (try clear r1); (try clear hbA); (try clear hT0); (try clear Bs); (try clear Wk); (try clear Ss); (try clear hsz0); (try clear hend); (try clear hroom); (try clear hi); omega) | omega))) (fun r2 u9 t9 H1 locs ht9 hvm9 hw9 hB9 hz9 hk9 hS => ?_)
  obtain ⟨hP9, -⟩ := hB9
  rw [ht9] at hP9
  have hW := LW_m hW hk9 hP9
  obtain ⟨v1, q2⟩ := u9
  obtain ⟨er9, hw9⟩ := hw9
  have er2 : r2 = iZ q2 := er9
  subst er2
  have hT := LWt_uz (r := 0) hT hw9
  try dsimp only at hW hT
  clear hk9 hP9
  generalize H1 = H at hW hS ⊢
  refine lv_pop hx hb dL_law_318 rfl ?_
  refine lv_goto (tgt := 1468) hx hb dL_law_319 (by decide) ?_
  have hV9 : LW9 u1 v1 := ⟨T, Ss, Wk, Bs, hT⟩
  refine W.widen (k := cells + 1) (n := slots + 6) (by (first | ((try clear hT); (try clear er2); (try clear er9); (try clear v1); (try clear hP9); (try clear hz9); (try clear r2); (try clear er1); (try clear u1); (try clear r1); (try clear hbA); (try clear hT0); (try clear Bs); (try clear Wk); (try clear Ss); (try clear hsz0); (try clear hend); (try clear hroom); (try clear hi); omega) | omega)) (by (first | ((try clear hT); (try clear er2); (try clear er9); (try clear v1); (try clear hP9); (try clear hz9); (try clear r2); (try clear er1); (try clear u1); (try clear r1); (try clear hbA); (try clear hT0); (try clear Bs); (try clear Wk); (try clear Ss); (try clear hsz0); (try clear hend); (try clear hroom); (try clear hi); omega) | omega)) ?_
  exact hend _ _ _ H locs ls hV9 hW hS (lv_sub hl [0, 1, 2, 3, 4] rfl)
set_option maxHeartbeats 4000000 in
set_option maxRecDepth 100000 in
theorem lc_lay {p : Program} {l : Launch} {e : Env} {s : State} {m : MethodId} {below : List Frame} {meth : Method} {c : Code} {dC : Nat → ClassId} {dI : Nat → Nat → Nat} {cI cL cII cR cZ cIII cO : ClassId} {h0 b L : Nat} {xs : Nat → Int32} (C0 : lx_C p l s m c b L xs dC dI cI cL cII cR cZ cIII cO h0) {i : Int} (hi : 0 ≤ i ∧ i + 6 ≤ L) {μ ν : va_M} {f : Nat → Int64} (hV : LW9 μ ν) {cells slots : Nat} (hroom : cells + 1 ≤ 601024 ∧ slots + 6 ≤ 7293034)
    (hend : ∀ (μ ν : va_M) (f : Nat → Int64) (H : Heap) (locs : List Loc) (ls : Array Slot), LW9 μ ν → LW dC dI cI cL cII cR cZ cIII cO h0 μ ν f H → va_S (lA h0) s.heap H locs → lv_has ls 7 [(4, .int (iZ i)), (0, .ref b), (1, .ref h0), (2, .ref (h0 + 233)), (3, .ref (h0 + 6558))] → W p l e room_1 s m #[Value.ref b] below meth c H locs (cells + 1) (slots + 6) (lw_Z below #[Value.ref b] s) (F0 m 1468 ls []))
    {H : Heap} {locs : List Loc} {ls : Array Slot} (hW : LW dC dI cI cL cII cR cZ cIII cO h0 μ ν f H) (hS : va_S (lA h0) s.heap H locs) (hl : lv_has ls 7 [(4, .int (iZ i)), (0, .ref b), (1, .ref h0), (2, .ref (h0 + 233)), (3, .ref (h0 + 6558))]) : W p l e room_1 s m #[Value.ref b] below meth c H locs cells slots (lw_Z below #[Value.ref b] s) (F0 m 322 ls []) := by
  obtain ⟨hfl, hx, hb, hml, hown, hts, hX, hbl, hsz0, hL9, hK, hKm, hKo, hM, hEx, hNc⟩ := C0
  obtain ⟨T, Ss, Wk, Bs, hT⟩ := hV
  have hT : LWt T Ss Wk Bs μ ν := hT
  have hT0 := hT
  have hbA : ¬ lA h0 b := Nat.not_le.mpr (by (first | ((try clear hbA); (try clear hT0); (try clear hT); (try clear Bs); (try clear Wk); (try clear Ss); (try clear hend); (try clear hroom); (try clear hi); omega) | omega))
  obtain ⟨a1, e1, ha1⟩ := iZ_ex (xs (iZ (i + 1)).toNatClampNeg)
  obtain ⟨b9, hbW⟩ := pg_W hT.1.1 a1
  have hb9 := hbW.1
  refine lv_aload_n hx hb dL_law_322 rfl (lv_at hl 2 rfl) ?_
  refine lv_aload_n hx hb dL_law_323 rfl (lv_at hl 1 rfl) ?_
  refine lv_iload hx hb dL_law_324 (lv_at hl 0 rfl) ?_
  refine lv_iconst (v := iZ 1) hx hb dL_law_326 rfl ?_
  refine lv_iadd hx hb dL_law_327 ?_
  refine lv_topi (fun x9 ex9 => ?_)
  obtain rfl : x9 = iZ (i + 1) := ex9.trans (iZ_add _ _)
  refine va_sld hx hb hX hbl hbA hS (iZ_in (by (first | ((try clear ex9); (try clear hb9); (try clear hbW); (try clear b9); (try clear ha1); (try clear e1); (try clear hbA); (try clear hT0); (try clear hT); (try clear Bs); (try clear Wk); (try clear Ss); (try clear hsz0); (try clear hend); (try clear hroom); omega) | omega)) (by (first | ((try clear ex9); (try clear hb9); (try clear hbW); (try clear b9); (try clear ha1); (try clear e1); (try clear hbA); (try clear hT0); (try clear hT); (try clear Bs); (try clear Wk); (try clear Ss); (try clear hsz0); (try clear hend); (try clear hroom); omega) | omega)) (by (first | ((try clear ex9); (try clear hb9); (try clear hbW); (try clear b9); (try clear ha1); (try clear e1); (try clear hbA); (try clear hT0); (try clear hT); (try clear Bs); (try clear Wk); (try clear Ss); (try clear hsz0); (try clear hend); (try clear hroom); (try clear hi); omega) | omega))) dL_law_328 ?_
  refine lv_topi (fun x9 ex9 => ?_)
  obtain rfl : x9 = iZ a1 := ex9.trans e1
  refine lv_aload_n hx hb dL_law_329 rfl (lv_at hl 4 rfl) ?_
  refine va_calli (vx_runSW (hh := [(0, 9, 12, 20), (0, 9, 15, 15)]) (As := [.ref h0, .int (iZ a1), .ref (h0 + 6558)]) (rest := []) ⟨hx, hb, hml, hown, hts⟩ (w_lay l hfl dC dI cI cL cII cR cO h0 (h0 + 6558) H.size μ f a1 T Wk Bs b9 (hT.1.1.1.1.1) ha1 (hT.1.2.1) (hT.1.2.2.2.2) (LK_W hT.1) (LK_cl hT.1 hb9) (LK_cw hT.1 hb9) (by (first | ((try clear ex9); (try clear hb9); (try clear hbW); (try clear b9); (try clear ha1); (try clear e1); (try clear hbA); (try clear hT0); (try clear hT); (try clear Bs); (try clear Wk); (try clear Ss); (try clear hsz0); (try clear hend); (try clear hroom); (try clear hi); omega) | omega))) (vx_cwSW 3 hts (gW_G k727 k728 k0 k729) rfl rfl rfl (by decide +kernel) ⟨Nat.le_of_ble_eq_true rfl, Nat.le_of_ble_eq_true rfl⟩) ⟨fun a U g mk q => by obtain ⟨q0, q1, qP, qO, qK, qKo, qM, qE, qN⟩ := q; exact ⟨q0, q1, qP, qO, va_K.moved (u := U) (U := U.calling g mk a) (Vm.Alike.refl U.vm) qK, va_K.moved (u := U) (U := U.calling g mk a) (Vm.Alike.refl U.vm) qKo, qM, xX_call qE, qN⟩, fun U hU hW9 => ⟨rfl, by rw [hU], by rw [hU]; exact hW.1, by rw [hU]; exact hW.2.2, va_K.moved hW9.alike hK, va_K.moved hW9.alike hKo, xM_warm hW9 hM, xX_at hEx hS (fun q h => lA_w hS hsz0 (by (first | ((try clear h); (try clear q); (try clear hU); (try clear U); (try clear mk); (try clear g); (try clear ex9); (try clear hb9); (try clear hbW); (try clear b9); (try clear ha1); (try clear e1); (try clear hbA); (try clear hT0); (try clear hT); (try clear Bs); (try clear Wk); (try clear Ss); (try clear hsz0); (try clear hend); (try clear hroom); (try clear hi); omega) | omega)) q h) hU hW9, xNC_warm hW9 hNc⟩⟩ rfl rfl hl.1 rfl (lv_room (Nat.le_of_ble_eq_true rfl)) dL_law_330 ⟨by show cells + 1 ≤ 601024; (first | ((try clear ex9); (try clear hb9); (try clear hbW); (try clear b9); (try clear ha1); (try clear e1); (try clear hbA); (try clear hT0); (try clear hT); (try clear Bs); (try clear Wk); (try clear Ss); (try clear hsz0); (try clear hend); (try clear hi); omega) | omega), by show slots + 6 ≤ 7293034; (first | ((try clear ex9); (try clear hb9); (try clear hbW); (try clear b9); (try clear ha1); (try clear e1); (try clear hbA); (try clear hT0); (try clear hT); (try clear Bs); (try clear Wk); (try clear Ss); (try clear hsz0); (try clear hend); (try clear hi); omega) | omega)⟩) hS (fun q _ h => lA_w hS hsz0 (by (first | ((try clear h); (try clear ex9); (try clear hb9); (try clear hbW); (try clear b9); (try clear ha1); (try clear e1); (try clear hbA); (try clear hT0); (try clear hT); (try clear Bs); (try clear Wk); (try clear Ss); (try clear hsz0); (try clear hend); (try clear hroom); (try clear hi); omega) | omega)) q h) (lA_w hS hsz0 (by (first | ((try clear ex9); (try clear hb9); (try clear hbW); (try clear b9); (try clear ha1); (try clear e1); (try clear hbA); (try clear hT0); (try clear hT); (try clear Bs); (try clear Wk); (try clear Ss); (try clear hsz0); (try clear hend); (try clear hroom); (try clear hi); omega) | omega))) (fun r1 u9 t9 H1 locs ht9 hvm9 hw9 hB9 hz9 hk9 hS => ?_)
  obtain ⟨hP9, hO9⟩ := hB9
  rw [ht9] at hP9 hO9
  have hW := LW_w hW hk9 hP9 hO9
  obtain ⟨hk1, hk2, cd, z, er1, hsp, hout⟩ := hw9
  obtain ⟨u1, f1⟩ := u9
  try dsimp only at hW hT hk1 hk2 hout
  clear hk9 hP9 hO9
  generalize H1 = H at hW hS ⊢
  refine lv_istore (lv' := [(5, .int r1), (4, .int (iZ i)), (0, .ref b), (1, .ref h0), (2, .ref (h0 + 233)), (3, .ref (h0 + 6558))]) hx hb dL_law_333 hl (by decide) rfl (fun ls hl => ?_)
  refine lv_aload_n hx hb dL_law_335 rfl (lv_at hl 4 rfl) ?_
  refine lv_aload_n hx hb dL_law_336 rfl (lv_at hl 2 rfl) ?_
  refine lv_iload hx hb dL_law_337 (lv_at hl 1 rfl) ?_
  refine lv_iconst (v := iZ 1) hx hb dL_law_339 rfl ?_
  refine lv_iadd hx hb dL_law_340 ?_
  refine lv_topi (fun x9 ex9 => ?_)
  obtain rfl : x9 = iZ (i + 1) := ex9.trans (iZ_add _ _)
  refine va_sld hx hb hX hbl hbA hS (iZ_in (by (first | ((try clear ex9); (try clear f1); (try clear u1); (try clear hout); (try clear hsp); (try clear er1); (try clear z); (try clear hk2); (try clear hk1); (try clear hO9); (try clear hP9); (try clear hz9); (try clear r1); (try clear hb9); (try clear hbW); (try clear ha1); (try clear e1); (try clear hbA); (try clear hT0); (try clear hT); (try clear Bs); (try clear Ss); (try clear hsz0); (try clear hend); (try clear hroom); omega) | omega)) (by (first | ((try clear ex9); (try clear f1); (try clear u1); (try clear hout); (try clear hsp); (try clear er1); (try clear z); (try clear hk2); (try clear hk1); (try clear hO9); (try clear hP9); (try clear hz9); (try clear r1); (try clear hb9); (try clear hbW); (try clear ha1); (try clear e1); (try clear hbA); (try clear hT0); (try clear hT); (try clear Bs); (try clear Ss); (try clear hsz0); (try clear hend); (try clear hroom); omega) | omega)) (by (first | ((try clear ex9); (try clear f1); (try clear u1); (try clear hout); (try clear hsp); (try clear er1); (try clear z); (try clear hk2); (try clear hk1); (try clear hO9); (try clear hP9); (try clear hz9); (try clear r1); (try clear hb9); (try clear hbW); (try clear ha1); (try clear e1); (try clear hbA); (try clear hT0); (try clear hT); (try clear Bs); (try clear Ss); (try clear hsz0); (try clear hend); (try clear hroom); (try clear hi); omega) | omega))) dL_law_341 ?_
  refine lv_topi (fun x9 ex9 => ?_)
  obtain rfl : x9 = iZ a1 := ex9.trans e1
  refine va_calli (va_runV (As := [.int (iZ a1)]) (rest := []) ⟨hx, hb, hml, hown, hts⟩ (f_lay l dC dI cI cZ cII cIII (h0 + 233) H.size ν a1 JS (Wk) (Bs) (b9) hT.1.1.1.1.2.1 JS_ok (LK_J hT.1) ha1 (LK_rl hb9)) (cwV 1 hts (gV_G k1535 k1536 k1537 k13 k1538) rfl rfl rfl (by decide +kernel) ⟨Nat.le_of_ble_eq_true rfl, Nat.le_of_ble_eq_true rfl⟩) ⟨fun a U g mk q => by obtain ⟨q0, q1, qP, qK⟩ := q; exact ⟨q0, q1, qP, va_K.moved (u := U) (U := U.calling g mk a) (Vm.Alike.refl U.vm) qK⟩, va_recv hKm hW.2.1 (ci := 10) (q0 := 0) rfl ((fw_get (by decide)).trans (by rw [mE_obj])), fun U hU hW9 => ⟨rfl, by rw [hU], by rw [hU]; exact hW.2.1, va_K.moved hW9.alike hKm⟩⟩ rfl rfl hl.1 rfl (lv_room (Nat.le_of_ble_eq_true rfl)) dL_law_342 ⟨by show cells + 1 + 0 ≤ 601024; (first | ((try clear ex9); (try clear f1); (try clear u1); (try clear hout); (try clear hsp); (try clear er1); (try clear z); (try clear hk2); (try clear hk1); (try clear hO9); (try clear hP9); (try clear hz9); (try clear r1); (try clear hb9); (try clear hbW); (try clear ha1); (try clear e1); (try clear hbA); (try clear hT0); (try clear hT); (try clear Bs); (try clear Ss); (try clear hsz0); (try clear hend); (try clear hi); omega) | omega), by show slots + 6 + 0 ≤ 7293034; (first | ((try clear ex9); (try clear f1); (try clear u1); (try clear hout); (try clear hsp); (try clear er1); (try clear z); (try clear hk2); (try clear hk1); (try clear hO9); (try clear hP9); (try clear hz9); (try clear r1); (try clear hb9); (try clear hbW); (try clear ha1); (try clear e1); (try clear hbA); (try clear hT0); (try clear hT); (try clear Bs); (try clear Ss); (try clear hsz0); (try clear hend); (try clear hi); omega) | omega)⟩) hS (fun q _ h => lA_f hS hsz0 (by (first | ((try clear h); (try clear ex9); (try clear f1); (try clear u1); (try clear hout); (try clear hsp); (try clear er1); (try clear z); (try clear hk2); (try clear hk1); (try clear hO9); (try clear hP9); (try clear hz9); (try clear r1); (try clear hb9); (try clear hbW); (try clear ha1); (try clear e1); (try clear hbA); (try clear hT0); (try clear hT); (try clear Bs); (try clear Ss); (try clear hsz0); (try clear hend); (try clear hroom); (try clear hi); omega) | omega)) q h) (lA_f hS hsz0 (by (first | ((try clear ex9); (try clear f1); (try clear u1); (try clear hout); (try clear hsp); (try clear er1); (try clear z); (try clear hk2); (try clear hk1); (try clear hO9); (try clear hP9); (try clear hz9); (try clear r1); (try clear hb9); (try clear hbW); (try clear ha1); (try clear e1); (try clear hbA); (try clear hT0); (try clear hT); (try clear Bs); (try clear Ss); (try clear hsz0); (try clear hend); (try clear hroom); (try clear hi); omega) | omega))) (fun r2 u9 t9 H1 locs ht9 hvm9 hw9 hB9 hz9 hk9 hS => ?_)
  obtain ⟨hP9, -⟩ := hB9
  rw [ht9] at hP9
  have hW := LW_m hW hk9 hP9
  obtain ⟨v1, q2⟩ := u9
  obtain ⟨er9, hw9⟩ := hw9
  have er2 : r2 = iZ q2 := er9
  subst er2
  have hm9 := hw9
  have hV9 := LWt_lay hT0 hbW hk1 hk2 hm9
  try dsimp only at hW hT
  clear hk9 hP9
  generalize H1 = H at hW hS ⊢
  refine lv_istore (lv' := [(6, .int (iZ q2)), (5, .int r1), (4, .int (iZ i)), (0, .ref b), (1, .ref h0), (2, .ref (h0 + 233)), (3, .ref (h0 + 6558))]) hx hb dL_law_345 hl (by decide) rfl (fun ls hl => ?_)
  refine lv_goto (tgt := 1468) hx hb dL_law_347 (by decide) ?_
  refine W.widen (k := cells + 1) (n := slots + 6) (by (first | ((try clear hV9); (try clear hm9); (try clear er2); (try clear er9); (try clear hP9); (try clear hz9); (try clear r2); (try clear ex9); (try clear f1); (try clear u1); (try clear hout); (try clear hsp); (try clear er1); (try clear z); (try clear hk2); (try clear hk1); (try clear hO9); (try clear r1); (try clear hb9); (try clear hbW); (try clear ha1); (try clear e1); (try clear hbA); (try clear hT0); (try clear hT); (try clear Bs); (try clear Ss); (try clear hsz0); (try clear hend); (try clear hroom); (try clear hi); omega) | omega)) (by (first | ((try clear hV9); (try clear hm9); (try clear er2); (try clear er9); (try clear hP9); (try clear hz9); (try clear r2); (try clear ex9); (try clear f1); (try clear u1); (try clear hout); (try clear hsp); (try clear er1); (try clear z); (try clear hk2); (try clear hk1); (try clear hO9); (try clear r1); (try clear hb9); (try clear hbW); (try clear ha1); (try clear e1); (try clear hbA); (try clear hT0); (try clear hT); (try clear Bs); (try clear Ss); (try clear hsz0); (try clear hend); (try clear hroom); (try clear hi); omega) | omega)) ?_
  exact hend _ _ _ H locs ls hV9 hW hS (lv_sub hl [2, 3, 4, 5, 6] rfl)
set_option maxHeartbeats 4000000 in
set_option maxRecDepth 100000 in
theorem lc_tidy {p : Program} {l : Launch} {e : Env} {s : State} {m : MethodId} {below : List Frame} {meth : Method} {c : Code} {dC : Nat → ClassId} {dI : Nat → Nat → Nat} {cI cL cII cR cZ cIII cO : ClassId} {h0 b L : Nat} {xs : Nat → Int32} (C0 : lx_C p l s m c b L xs dC dI cI cL cII cR cZ cIII cO h0) {i : Int} (hi : 0 ≤ i ∧ i + 6 ≤ L) {μ ν : va_M} {f : Nat → Int64} (hV : LW9 μ ν) {cells slots : Nat} (hroom : cells + 1 ≤ 601024 ∧ slots + 6 ≤ 7293034)
    (hend : ∀ (μ ν : va_M) (f : Nat → Int64) (H : Heap) (locs : List Loc) (ls : Array Slot), LW9 μ ν → LW dC dI cI cL cII cR cZ cIII cO h0 μ ν f H → va_S (lA h0) s.heap H locs → lv_has ls 7 [(4, .int (iZ i)), (0, .ref b), (1, .ref h0), (2, .ref (h0 + 233)), (3, .ref (h0 + 6558))] → W p l e room_1 s m #[Value.ref b] below meth c H locs (cells + 1) (slots + 6) (lw_Z below #[Value.ref b] s) (F0 m 1468 ls []))
    {H : Heap} {locs : List Loc} {ls : Array Slot} (hW : LW dC dI cI cL cII cR cZ cIII cO h0 μ ν f H) (hS : va_S (lA h0) s.heap H locs) (hl : lv_has ls 7 [(4, .int (iZ i)), (0, .ref b), (1, .ref h0), (2, .ref (h0 + 233)), (3, .ref (h0 + 6558))]) : W p l e room_1 s m #[Value.ref b] below meth c H locs cells slots (lw_Z below #[Value.ref b] s) (F0 m 350 ls []) := by
  obtain ⟨hfl, hx, hb, hml, hown, hts, hX, hbl, hsz0, hL9, hK, hKm, hKo, hM, hEx, hNc⟩ := C0
  obtain ⟨T, Ss, Wk, Bs, hT⟩ := hV
  have hT : LWt T Ss Wk Bs μ ν := hT
  have hT0 := hT
  have hbA : ¬ lA h0 b := Nat.not_le.mpr (by (first | ((try clear hbA); (try clear hT0); (try clear hT); (try clear Bs); (try clear Wk); (try clear Ss); (try clear hend); (try clear hroom); (try clear hi); omega) | omega))
  refine lv_aload_n hx hb dL_law_350 rfl (lv_at hl 2 rfl) ?_
  refine va_calli (va_runV (As := []) (rest := []) ⟨hx, hb, hml, hown, hts⟩ (t_tidy l dC dI cI cL cII cR h0 H.size μ T Wk Bs (hT.1.1.1.1.1) (hT.1.2.1) (hT.1.2.2.2.2) (LK_W hT.1) (LK_A hT.1) (LK_cap hT.1) (LK_td hT.1) (LK_n hT.1)) (cwV 0 hts (gV_G k390 k391 k392 k1 k393) rfl rfl rfl (by decide +kernel) ⟨Nat.le_of_ble_eq_true rfl, Nat.le_of_ble_eq_true rfl⟩) ⟨fun a U g mk q => by obtain ⟨q0, q1, qP, qK, qM⟩ := q; exact ⟨q0, q1, qP, va_K.moved (u := U) (U := U.calling g mk a) (Vm.Alike.refl U.vm) qK, qM⟩, va_recv hK hW.1 (ci := 9) (q0 := 0) rfl ((fw_get (by decide)).trans (by rw [sE_0]; rfl)), fun U hU hW9 => ⟨rfl, by rw [hU], by rw [hU]; exact hW.1, va_K.moved hW9.alike hK, xM_warm hW9 hM⟩⟩ rfl rfl hl.1 rfl (lv_room (Nat.le_of_ble_eq_true rfl)) dL_law_351 ⟨by show cells + 0 ≤ 601024; (first | ((try clear hbA); (try clear hT0); (try clear hT); (try clear Bs); (try clear Wk); (try clear Ss); (try clear hsz0); (try clear hend); (try clear hi); omega) | omega), by show slots + 0 ≤ 7293034; (first | ((try clear hbA); (try clear hT0); (try clear hT); (try clear Bs); (try clear Wk); (try clear Ss); (try clear hsz0); (try clear hend); (try clear hi); omega) | omega)⟩) hS (fun q _ h => lA_f hS hsz0 (Nat.le_refl _) q h) (lA_f hS hsz0 (Nat.le_refl _)) (fun r1 u9 t9 H1 locs ht9 hvm9 hw9 hB9 hz9 hk9 hS => ?_)
  obtain ⟨hP9, -⟩ := hB9
  rw [ht9] at hP9
  have hW := LW_c hW hk9 hP9
  obtain ⟨u1, q1⟩ := u9
  obtain ⟨er9, hw9⟩ := hw9
  have er1 : r1 = iZ q1 := er9
  subst er1
  have hc := hw9
  try dsimp only at hW hT
  clear hk9 hP9
  generalize H1 = H at hW hS ⊢
  refine lv_pop hx hb dL_law_354 rfl ?_
  refine lv_aload_n hx hb dL_law_355 rfl (lv_at hl 3 rfl) ?_
  refine va_calli (va_runV (As := []) (rest := []) ⟨hx, hb, hml, hown, hts⟩ (f_tidy l dC dI cI cZ cII cIII (h0 + 233) H.size ν JS (Wk) (Bs) hT.1.1.1.1.2.1 JS_ok JS_TDok (LK_J hT.1) (JS_rAd)) (cwV 0 hts (gV_G k1436 k1437 k1438 k13 k1439) rfl rfl rfl (by decide +kernel) ⟨Nat.le_of_ble_eq_true rfl, Nat.le_of_ble_eq_true rfl⟩) ⟨fun a U g mk q => by obtain ⟨q0, q1, qP, qK⟩ := q; exact ⟨q0, q1, qP, va_K.moved (u := U) (U := U.calling g mk a) (Vm.Alike.refl U.vm) qK⟩, va_recv hKm hW.2.1 (ci := 10) (q0 := 0) rfl ((fw_get (by decide)).trans (by rw [mE_obj])), fun U hU hW9 => ⟨rfl, by rw [hU], by rw [hU]; exact hW.2.1, va_K.moved hW9.alike hKm⟩⟩ rfl rfl hl.1 rfl (lv_room (Nat.le_of_ble_eq_true rfl)) dL_law_356 ⟨by show cells + 0 ≤ 601024; (first | ((try clear hc); (try clear er1); (try clear er9); (try clear hP9); (try clear hz9); (try clear r1); (try clear hbA); (try clear hT0); (try clear hT); (try clear Ss); (try clear hsz0); (try clear hend); (try clear hi); omega) | omega), by show slots + 0 ≤ 7293034; (first | ((try clear hc); (try clear er1); (try clear er9); (try clear hP9); (try clear hz9); (try clear r1); (try clear hbA); (try clear hT0); (try clear hT); (try clear Ss); (try clear hsz0); (try clear hend); (try clear hi); omega) | omega)⟩) hS (fun q _ h => lA_f hS hsz0 (by (first | ((try clear h); (try clear hc); (try clear er1); (try clear er9); (try clear hP9); (try clear hz9); (try clear r1); (try clear hbA); (try clear hT0); (try clear hT); (try clear Ss); (try clear hsz0); (try clear hend); (try clear hroom); (try clear hi); omega) | omega)) q h) (lA_f hS hsz0 (by (first | ((try clear hc); (try clear er1); (try clear er9); (try clear hP9); (try clear hz9); (try clear r1); (try clear hbA); (try clear hT0); (try clear hT); (try clear Ss); (try clear hsz0); (try clear hend); (try clear hroom); (try clear hi); omega) | omega))) (fun r2 u9 t9 H1 locs ht9 hvm9 hw9 hB9 hz9 hk9 hS => ?_)
  obtain ⟨hP9, -⟩ := hB9
  rw [ht9] at hP9
  have hW := LW_m hW hk9 hP9
  obtain ⟨v1, q2⟩ := u9
  obtain ⟨er9, hw9⟩ := hw9
  have er2 : r2 = iZ q2 := er9
  subst er2
  have hm := hw9
  try dsimp only at hW hT
  clear hk9 hP9
  generalize H1 = H at hW hS ⊢
  refine lv_pop hx hb dL_law_359 rfl ?_
  refine lv_goto (tgt := 1468) hx hb dL_law_360 (by decide) ?_
  have hV9 := (LWt_tidy hT hc hm).2
  refine W.widen (k := cells + 1) (n := slots + 6) (by (first | ((try clear hV9); (try clear hm); (try clear er2); (try clear er9); (try clear hP9); (try clear hz9); (try clear r2); (try clear hc); (try clear er1); (try clear r1); (try clear hbA); (try clear hT0); (try clear hT); (try clear Ss); (try clear hsz0); (try clear hend); (try clear hroom); (try clear hi); omega) | omega)) (by (first | ((try clear hV9); (try clear hm); (try clear er2); (try clear er9); (try clear hP9); (try clear hz9); (try clear r2); (try clear hc); (try clear er1); (try clear r1); (try clear hbA); (try clear hT0); (try clear hT); (try clear Ss); (try clear hsz0); (try clear hend); (try clear hroom); (try clear hi); omega) | omega)) ?_
  exact hend _ _ _ H locs ls hV9 hW hS (lv_sub hl [0, 1, 2, 3, 4] rfl)
set_option maxHeartbeats 4000000 in
set_option maxRecDepth 100000 in
theorem lc_tidied {p : Program} {l : Launch} {e : Env} {s : State} {m : MethodId} {below : List Frame} {meth : Method} {c : Code} {dC : Nat → ClassId} {dI : Nat → Nat → Nat} {cI cL cII cR cZ cIII cO : ClassId} {h0 b L : Nat} {xs : Nat → Int32} (C0 : lx_C p l s m c b L xs dC dI cI cL cII cR cZ cIII cO h0) {i : Int} (hi : 0 ≤ i ∧ i + 6 ≤ L) {μ ν : va_M} {f : Nat → Int64} (hV : LW9 μ ν) {cells slots : Nat} (hroom : cells + 1 ≤ 601024 ∧ slots + 6 ≤ 7293034)
    (hend : ∀ (μ ν : va_M) (f : Nat → Int64) (H : Heap) (locs : List Loc) (ls : Array Slot), LW9 μ ν → LW dC dI cI cL cII cR cZ cIII cO h0 μ ν f H → va_S (lA h0) s.heap H locs → lv_has ls 7 [(4, .int (iZ i)), (0, .ref b), (1, .ref h0), (2, .ref (h0 + 233)), (3, .ref (h0 + 6558))] → W p l e room_1 s m #[Value.ref b] below meth c H locs (cells + 1) (slots + 6) (lw_Z below #[Value.ref b] s) (F0 m 1468 ls []))
    {H : Heap} {locs : List Loc} {ls : Array Slot} (hW : LW dC dI cI cL cII cR cZ cIII cO h0 μ ν f H) (hS : va_S (lA h0) s.heap H locs) (hl : lv_has ls 7 [(4, .int (iZ i)), (0, .ref b), (1, .ref h0), (2, .ref (h0 + 233)), (3, .ref (h0 + 6558))]) : W p l e room_1 s m #[Value.ref b] below meth c H locs cells slots (lw_Z below #[Value.ref b] s) (F0 m 363 ls []) := by
  obtain ⟨hfl, hx, hb, hml, hown, hts, hX, hbl, hsz0, hL9, hK, hKm, hKo, hM, hEx, hNc⟩ := C0
  obtain ⟨T, Ss, Wk, Bs, hT⟩ := hV
  have hT : LWt T Ss Wk Bs μ ν := hT
  have hT0 := hT
  have hbA : ¬ lA h0 b := Nat.not_le.mpr (by (first | ((try clear hbA); (try clear hT0); (try clear hT); (try clear Bs); (try clear Wk); (try clear Ss); (try clear hend); (try clear hroom); (try clear hi); omega) | omega))
  obtain ⟨a1, e1, ha1⟩ := iZ_ex (xs (iZ (i + 1)).toNatClampNeg)
  refine lv_aload_n hx hb dL_law_363 rfl (lv_at hl 2 rfl) ?_
  refine lv_aload_n hx hb dL_law_364 rfl (lv_at hl 1 rfl) ?_
  refine lv_iload hx hb dL_law_365 (lv_at hl 0 rfl) ?_
  refine lv_iconst (v := iZ 1) hx hb dL_law_367 rfl ?_
  refine lv_iadd hx hb dL_law_368 ?_
  refine lv_topi (fun x9 ex9 => ?_)
  obtain rfl : x9 = iZ (i + 1) := ex9.trans (iZ_add _ _)
  refine va_sld hx hb hX hbl hbA hS (iZ_in (by (first | ((try clear ex9); (try clear ha1); (try clear e1); (try clear hbA); (try clear hT0); (try clear hT); (try clear Bs); (try clear Wk); (try clear Ss); (try clear hsz0); (try clear hend); (try clear hroom); omega) | omega)) (by (first | ((try clear ex9); (try clear ha1); (try clear e1); (try clear hbA); (try clear hT0); (try clear hT); (try clear Bs); (try clear Wk); (try clear Ss); (try clear hsz0); (try clear hend); (try clear hroom); omega) | omega)) (by (first | ((try clear ex9); (try clear ha1); (try clear e1); (try clear hbA); (try clear hT0); (try clear hT); (try clear Bs); (try clear Wk); (try clear Ss); (try clear hsz0); (try clear hend); (try clear hroom); (try clear hi); omega) | omega))) dL_law_369 ?_
  refine lv_topi (fun x9 ex9 => ?_)
  obtain rfl : x9 = iZ a1 := ex9.trans e1
  refine lv_aload_n hx hb dL_law_370 rfl (lv_at hl 4 rfl) ?_
  refine va_calli (vx_runSW (hh := [(0, 9, 12, 13)]) (As := [.ref h0, .int (iZ a1), .ref (h0 + 6558)]) (rest := []) ⟨hx, hb, hml, hown, hts⟩ (w_tidied l hfl dC dI cI cL cII cR cO h0 (h0 + 6558) H.size μ f a1 T Wk Bs (hT.1.1.1.1.1) ha1 (hT.1.2.1) (hT.1.2.2.2.2) (LK_W hT.1) (LK_A hT.1) (LK_cap hT.1) (by (first | ((try clear ex9); (try clear ha1); (try clear e1); (try clear hbA); (try clear hT0); (try clear hT); (try clear Bs); (try clear Wk); (try clear Ss); (try clear hsz0); (try clear hend); (try clear hroom); (try clear hi); omega) | omega))) (vx_cwSW 3 hts (gW_G k837 k838 k0 k839) rfl rfl rfl (by decide +kernel) ⟨Nat.le_of_ble_eq_true rfl, Nat.le_of_ble_eq_true rfl⟩) ⟨fun a U g mk q => by obtain ⟨q0, q1, qP, qO, qK, qKo, qM, qE, qN⟩ := q; exact ⟨q0, q1, qP, qO, va_K.moved (u := U) (U := U.calling g mk a) (Vm.Alike.refl U.vm) qK, va_K.moved (u := U) (U := U.calling g mk a) (Vm.Alike.refl U.vm) qKo, qM, xX_call qE, qN⟩, fun U hU hW9 => ⟨rfl, by rw [hU], by rw [hU]; exact hW.1, by rw [hU]; exact hW.2.2, va_K.moved hW9.alike hK, va_K.moved hW9.alike hKo, xM_warm hW9 hM, xX_at hEx hS (fun q h => lA_w hS hsz0 (by (first | ((try clear h); (try clear q); (try clear hU); (try clear U); (try clear mk); (try clear g); (try clear ex9); (try clear ha1); (try clear e1); (try clear hbA); (try clear hT0); (try clear hT); (try clear Bs); (try clear Wk); (try clear Ss); (try clear hsz0); (try clear hend); (try clear hroom); (try clear hi); omega) | omega)) q h) hU hW9, xNC_warm hW9 hNc⟩⟩ rfl rfl hl.1 rfl (lv_room (Nat.le_of_ble_eq_true rfl)) dL_law_371 ⟨by show cells + 1 ≤ 601024; (first | ((try clear ex9); (try clear ha1); (try clear e1); (try clear hbA); (try clear hT0); (try clear hT); (try clear Bs); (try clear Wk); (try clear Ss); (try clear hsz0); (try clear hend); (try clear hi); omega) | omega), by show slots + 6 ≤ 7293034; (first | ((try clear ex9); (try clear ha1); (try clear e1); (try clear hbA); (try clear hT0); (try clear hT); (try clear Bs); (try clear Wk); (try clear Ss); (try clear hsz0); (try clear hend); (try clear hi); omega) | omega)⟩) hS (fun q _ h => lA_w hS hsz0 (by (first | ((try clear h); (try clear ex9); (try clear ha1); (try clear e1); (try clear hbA); (try clear hT0); (try clear hT); (try clear Bs); (try clear Wk); (try clear Ss); (try clear hsz0); (try clear hend); (try clear hroom); (try clear hi); omega) | omega)) q h) (lA_w hS hsz0 (by (first | ((try clear ex9); (try clear ha1); (try clear e1); (try clear hbA); (try clear hT0); (try clear hT); (try clear Bs); (try clear Wk); (try clear Ss); (try clear hsz0); (try clear hend); (try clear hroom); (try clear hi); omega) | omega))) (fun r1 u9 t9 H1 locs ht9 hvm9 hw9 hB9 hz9 hk9 hS => ?_)
  obtain ⟨hP9, hO9⟩ := hB9
  rw [ht9] at hP9 hO9
  have hW := LW_w hW hk9 hP9 hO9
  have hT := LWt_c hT hw9
  obtain ⟨u1, f1⟩ := u9
  try dsimp only at hW hT
  clear hk9 hP9 hO9
  generalize H1 = H at hW hS ⊢
  refine lv_istore (lv' := [(5, .int r1), (4, .int (iZ i)), (0, .ref b), (1, .ref h0), (2, .ref (h0 + 233)), (3, .ref (h0 + 6558))]) hx hb dL_law_374 hl (by decide) rfl (fun ls hl => ?_)
  refine lv_aload_n hx hb dL_law_376 rfl (lv_at hl 4 rfl) ?_
  refine lv_aload_n hx hb dL_law_377 rfl (lv_at hl 2 rfl) ?_
  refine lv_iload hx hb dL_law_378 (lv_at hl 1 rfl) ?_
  refine lv_iconst (v := iZ 1) hx hb dL_law_380 rfl ?_
  refine lv_iadd hx hb dL_law_381 ?_
  refine lv_topi (fun x9 ex9 => ?_)
  obtain rfl : x9 = iZ (i + 1) := ex9.trans (iZ_add _ _)
  refine va_sld hx hb hX hbl hbA hS (iZ_in (by (first | ((try clear ex9); (try clear f1); (try clear u1); (try clear hT); (try clear hO9); (try clear hP9); (try clear hz9); (try clear r1); (try clear ha1); (try clear e1); (try clear hbA); (try clear hT0); (try clear Bs); (try clear Wk); (try clear Ss); (try clear hsz0); (try clear hend); (try clear hroom); omega) | omega)) (by (first | ((try clear ex9); (try clear f1); (try clear u1); (try clear hT); (try clear hO9); (try clear hP9); (try clear hz9); (try clear r1); (try clear ha1); (try clear e1); (try clear hbA); (try clear hT0); (try clear Bs); (try clear Wk); (try clear Ss); (try clear hsz0); (try clear hend); (try clear hroom); omega) | omega)) (by (first | ((try clear ex9); (try clear f1); (try clear u1); (try clear hT); (try clear hO9); (try clear hP9); (try clear hz9); (try clear r1); (try clear ha1); (try clear e1); (try clear hbA); (try clear hT0); (try clear Bs); (try clear Wk); (try clear Ss); (try clear hsz0); (try clear hend); (try clear hroom); (try clear hi); omega) | omega))) dL_law_382 ?_
  refine lv_topi (fun x9 ex9 => ?_)
  obtain rfl : x9 = iZ a1 := ex9.trans e1
  refine va_calli (va_runV (As := [.int (iZ a1)]) (rest := []) ⟨hx, hb, hml, hown, hts⟩ (f_tidiedK l dC dI cI cZ cII cIII (h0 + 233) H.size ν a1 JS (Wk) (Bs) hT.1.1.1.1.2.1 JS_ok JS_TDok (LK_J hT.1) ha1) (cwV 1 hts (gV_G k1484 k1485 k1486 k13 k1487) rfl rfl rfl (by decide +kernel) ⟨Nat.le_of_ble_eq_true rfl, Nat.le_of_ble_eq_true rfl⟩) ⟨fun a U g mk q => by obtain ⟨q0, q1, qP, qK⟩ := q; exact ⟨q0, q1, qP, va_K.moved (u := U) (U := U.calling g mk a) (Vm.Alike.refl U.vm) qK⟩, va_recv hKm hW.2.1 (ci := 10) (q0 := 0) rfl ((fw_get (by decide)).trans (by rw [mE_obj])), fun U hU hW9 => ⟨rfl, by rw [hU], by rw [hU]; exact hW.2.1, va_K.moved hW9.alike hKm⟩⟩ rfl rfl hl.1 rfl (lv_room (Nat.le_of_ble_eq_true rfl)) dL_law_383 ⟨by show cells + 1 + 0 ≤ 601024; (first | ((try clear ex9); (try clear f1); (try clear u1); (try clear hT); (try clear hO9); (try clear hP9); (try clear hz9); (try clear r1); (try clear ha1); (try clear e1); (try clear hbA); (try clear hT0); (try clear Bs); (try clear Wk); (try clear Ss); (try clear hsz0); (try clear hend); (try clear hi); omega) | omega), by show slots + 6 + 0 ≤ 7293034; (first | ((try clear ex9); (try clear f1); (try clear u1); (try clear hT); (try clear hO9); (try clear hP9); (try clear hz9); (try clear r1); (try clear ha1); (try clear e1); (try clear hbA); (try clear hT0); (try clear Bs); (try clear Wk); (try clear Ss); (try clear hsz0); (try clear hend); (try clear hi); omega) | omega)⟩) hS (fun q _ h => lA_f hS hsz0 (by (first | ((try clear h); (try clear ex9); (try clear f1); (try clear u1); (try clear hT); (try clear hO9); (try clear hP9); (try clear hz9); (try clear r1); (try clear ha1); (try clear e1); (try clear hbA); (try clear hT0); (try clear Bs); (try clear Wk); (try clear Ss); (try clear hsz0); (try clear hend); (try clear hroom); (try clear hi); omega) | omega)) q h) (lA_f hS hsz0 (by (first | ((try clear ex9); (try clear f1); (try clear u1); (try clear hT); (try clear hO9); (try clear hP9); (try clear hz9); (try clear r1); (try clear ha1); (try clear e1); (try clear hbA); (try clear hT0); (try clear Bs); (try clear Wk); (try clear Ss); (try clear hsz0); (try clear hend); (try clear hroom); (try clear hi); omega) | omega))) (fun r2 u9 t9 H1 locs ht9 hvm9 hw9 hB9 hz9 hk9 hS => ?_)
  obtain ⟨hP9, -⟩ := hB9
  rw [ht9] at hP9
  have hW := LW_m hW hk9 hP9
  obtain ⟨v1, q2⟩ := u9
  obtain ⟨er9, hw9⟩ := hw9
  have er2 : r2 = iZ q2 := er9
  subst er2
  skip
  have hT := LWt_mk hT hw9
  try dsimp only at hW hT
  clear hk9 hP9
  generalize H1 = H at hW hS ⊢
  refine lv_istore (lv' := [(6, .int (iZ q2)), (5, .int r1), (4, .int (iZ i)), (0, .ref b), (1, .ref h0), (2, .ref (h0 + 233)), (3, .ref (h0 + 6558))]) hx hb dL_law_386 hl (by decide) rfl (fun ls hl => ?_)
  refine lv_goto (tgt := 1468) hx hb dL_law_388 (by decide) ?_
  have hV9 : LW9 u1 v1 := ⟨T, Ss, Wk, Bs, hT⟩
  refine W.widen (k := cells + 1) (n := slots + 6) (by (first | ((try clear hT); (try clear er2); (try clear er9); (try clear q2); (try clear v1); (try clear hP9); (try clear hz9); (try clear r2); (try clear ex9); (try clear f1); (try clear u1); (try clear hO9); (try clear r1); (try clear ha1); (try clear e1); (try clear hbA); (try clear hT0); (try clear Bs); (try clear Wk); (try clear Ss); (try clear hsz0); (try clear hend); (try clear hroom); (try clear hi); omega) | omega)) (by (first | ((try clear hT); (try clear er2); (try clear er9); (try clear q2); (try clear v1); (try clear hP9); (try clear hz9); (try clear r2); (try clear ex9); (try clear f1); (try clear u1); (try clear hO9); (try clear r1); (try clear ha1); (try clear e1); (try clear hbA); (try clear hT0); (try clear Bs); (try clear Wk); (try clear Ss); (try clear hsz0); (try clear hend); (try clear hroom); (try clear hi); omega) | omega)) ?_
  exact hend _ _ _ H locs ls hV9 hW hS (lv_sub hl [2, 3, 4, 5, 6] rfl)
set_option maxHeartbeats 4000000 in
set_option maxRecDepth 100000 in
theorem lc_undo {p : Program} {l : Launch} {e : Env} {s : State} {m : MethodId} {below : List Frame} {meth : Method} {c : Code} {dC : Nat → ClassId} {dI : Nat → Nat → Nat} {cI cL cII cR cZ cIII cO : ClassId} {h0 b L : Nat} {xs : Nat → Int32} (C0 : lx_C p l s m c b L xs dC dI cI cL cII cR cZ cIII cO h0) {i : Int} (hi : 0 ≤ i ∧ i + 6 ≤ L) {μ ν : va_M} {f : Nat → Int64} (hV : LW9 μ ν) {cells slots : Nat} (hroom : cells + 1 ≤ 601024 ∧ slots + 6 ≤ 7293034)
    (hend : ∀ (μ ν : va_M) (f : Nat → Int64) (H : Heap) (locs : List Loc) (ls : Array Slot), LW9 μ ν → LW dC dI cI cL cII cR cZ cIII cO h0 μ ν f H → va_S (lA h0) s.heap H locs → lv_has ls 7 [(4, .int (iZ i)), (0, .ref b), (1, .ref h0), (2, .ref (h0 + 233)), (3, .ref (h0 + 6558))] → W p l e room_1 s m #[Value.ref b] below meth c H locs (cells + 1) (slots + 6) (lw_Z below #[Value.ref b] s) (F0 m 1468 ls []))
    {H : Heap} {locs : List Loc} {ls : Array Slot} (hW : LW dC dI cI cL cII cR cZ cIII cO h0 μ ν f H) (hS : va_S (lA h0) s.heap H locs) (hl : lv_has ls 7 [(4, .int (iZ i)), (0, .ref b), (1, .ref h0), (2, .ref (h0 + 233)), (3, .ref (h0 + 6558))]) : W p l e room_1 s m #[Value.ref b] below meth c H locs cells slots (lw_Z below #[Value.ref b] s) (F0 m 391 ls []) := by
  obtain ⟨hfl, hx, hb, hml, hown, hts, hX, hbl, hsz0, hL9, hK, hKm, hKo, hM, hEx, hNc⟩ := C0
  obtain ⟨T, Ss, Wk, Bs, hT⟩ := hV
  have hT : LWt T Ss Wk Bs μ ν := hT
  have hT0 := hT
  have hbA : ¬ lA h0 b := Nat.not_le.mpr (by (first | ((try clear hbA); (try clear hT0); (try clear hT); (try clear Bs); (try clear Wk); (try clear Ss); (try clear hend); (try clear hroom); (try clear hi); omega) | omega))
  refine lv_aload_n hx hb dL_law_391 rfl (lv_at hl 2 rfl) ?_
  refine va_calli (va_runV (As := []) (rest := []) ⟨hx, hb, hml, hown, hts⟩ (t_undo l dC dI cI cL cII cR h0 H.size μ T Wk Bs (hT.1.1.1.1.1) (hT.1.2.1) (hT.1.2.2.2.2) (LK_W hT.1) (LK_Bs hT.1)) (cwV 0 hts (gV_G k503 k504 k505 k1 k506) rfl rfl rfl (by decide +kernel) ⟨Nat.le_of_ble_eq_true rfl, Nat.le_of_ble_eq_true rfl⟩) ⟨fun a U g mk q => by obtain ⟨q0, q1, qP, qK, qM⟩ := q; exact ⟨q0, q1, qP, va_K.moved (u := U) (U := U.calling g mk a) (Vm.Alike.refl U.vm) qK, qM⟩, va_recv hK hW.1 (ci := 9) (q0 := 0) rfl ((fw_get (by decide)).trans (by rw [sE_0]; rfl)), fun U hU hW9 => ⟨rfl, by rw [hU], by rw [hU]; exact hW.1, va_K.moved hW9.alike hK, xM_warm hW9 hM⟩⟩ rfl rfl hl.1 rfl (lv_room (Nat.le_of_ble_eq_true rfl)) dL_law_392 ⟨by show cells + 0 ≤ 601024; (first | ((try clear hbA); (try clear hT0); (try clear hT); (try clear Bs); (try clear Wk); (try clear Ss); (try clear hsz0); (try clear hend); (try clear hi); omega) | omega), by show slots + 0 ≤ 7293034; (first | ((try clear hbA); (try clear hT0); (try clear hT); (try clear Bs); (try clear Wk); (try clear Ss); (try clear hsz0); (try clear hend); (try clear hi); omega) | omega)⟩) hS (fun q _ h => lA_f hS hsz0 (Nat.le_refl _) q h) (lA_f hS hsz0 (Nat.le_refl _)) (fun r1 u9 t9 H1 locs ht9 hvm9 hw9 hB9 hz9 hk9 hS => ?_)
  obtain ⟨hP9, -⟩ := hB9
  rw [ht9] at hP9
  have hW := LW_c hW hk9 hP9
  obtain ⟨u1, q1⟩ := u9
  obtain ⟨er9, hw9⟩ := hw9
  have er1 : r1 = iZ q1 := er9
  subst er1
  have hc := hw9
  try dsimp only at hW hT
  clear hk9 hP9
  generalize H1 = H at hW hS ⊢
  refine lv_pop hx hb dL_law_395 rfl ?_
  refine lv_aload_n hx hb dL_law_396 rfl (lv_at hl 3 rfl) ?_
  refine va_calli (va_runV (As := []) (rest := []) ⟨hx, hb, hml, hown, hts⟩ (f_undo l dC dI cI cZ cII cIII (h0 + 233) H.size ν JS (Wk) (Bs) hT.1.1.1.1.2.1 JS_ok (LK_J hT.1)) (cwV 0 hts (gV_G k1568 k1569 k1570 k13 k1571) rfl rfl rfl (by decide +kernel) ⟨Nat.le_of_ble_eq_true rfl, Nat.le_of_ble_eq_true rfl⟩) ⟨fun a U g mk q => by obtain ⟨q0, q1, qP, qK⟩ := q; exact ⟨q0, q1, qP, va_K.moved (u := U) (U := U.calling g mk a) (Vm.Alike.refl U.vm) qK⟩, va_recv hKm hW.2.1 (ci := 10) (q0 := 0) rfl ((fw_get (by decide)).trans (by rw [mE_obj])), fun U hU hW9 => ⟨rfl, by rw [hU], by rw [hU]; exact hW.2.1, va_K.moved hW9.alike hKm⟩⟩ rfl rfl hl.1 rfl (lv_room (Nat.le_of_ble_eq_true rfl)) dL_law_397 ⟨by show cells + 0 ≤ 601024; (first | ((try clear hc); (try clear er1); (try clear er9); (try clear u1); (try clear hP9); (try clear hz9); (try clear r1); (try clear hbA); (try clear hT0); (try clear hT); (try clear Wk); (try clear Ss); (try clear hsz0); (try clear hend); (try clear hi); omega) | omega), by show slots + 0 ≤ 7293034; (first | ((try clear hc); (try clear er1); (try clear er9); (try clear u1); (try clear hP9); (try clear hz9); (try clear r1); (try clear hbA); (try clear hT0); (try clear hT); (try clear Wk); (try clear Ss); (try clear hsz0); (try clear hend); (try clear hi); omega) | omega)⟩) hS (fun q _ h => lA_f hS hsz0 (by (first | ((try clear h); (try clear hc); (try clear er1); (try clear er9); (try clear u1); (try clear hP9); (try clear hz9); (try clear r1); (try clear hbA); (try clear hT0); (try clear hT); (try clear Wk); (try clear Ss); (try clear hsz0); (try clear hend); (try clear hroom); (try clear hi); omega) | omega)) q h) (lA_f hS hsz0 (by (first | ((try clear hc); (try clear er1); (try clear er9); (try clear u1); (try clear hP9); (try clear hz9); (try clear r1); (try clear hbA); (try clear hT0); (try clear hT); (try clear Wk); (try clear Ss); (try clear hsz0); (try clear hend); (try clear hroom); (try clear hi); omega) | omega))) (fun r2 u9 t9 H1 locs ht9 hvm9 hw9 hB9 hz9 hk9 hS => ?_)
  obtain ⟨hP9, -⟩ := hB9
  rw [ht9] at hP9
  have hW := LW_m hW hk9 hP9
  obtain ⟨v1, q2⟩ := u9
  obtain ⟨er9, hw9⟩ := hw9
  have er2 : r2 = iZ q2 := er9
  subst er2
  have hm := hw9
  try dsimp only at hW hT
  clear hk9 hP9
  generalize H1 = H at hW hS ⊢
  refine lv_pop hx hb dL_law_400 rfl ?_
  refine lv_goto (tgt := 1468) hx hb dL_law_401 (by decide) ?_
  have hV9 := (LWt_undo hT hc hm).2
  refine W.widen (k := cells + 1) (n := slots + 6) (by (first | ((try clear hV9); (try clear hm); (try clear er2); (try clear er9); (try clear hP9); (try clear hz9); (try clear r2); (try clear hc); (try clear er1); (try clear u1); (try clear r1); (try clear hbA); (try clear hT0); (try clear hT); (try clear Wk); (try clear Ss); (try clear hsz0); (try clear hend); (try clear hroom); (try clear hi); omega) | omega)) (by (first | ((try clear hV9); (try clear hm); (try clear er2); (try clear er9); (try clear hP9); (try clear hz9); (try clear r2); (try clear hc); (try clear er1); (try clear u1); (try clear r1); (try clear hbA); (try clear hT0); (try clear hT); (try clear Wk); (try clear Ss); (try clear hsz0); (try clear hend); (try clear hroom); (try clear hi); omega) | omega)) ?_
  exact hend _ _ _ H locs ls hV9 hW hS (lv_sub hl [0, 1, 2, 3, 4] rfl)
set_option maxHeartbeats 4000000 in
set_option maxRecDepth 100000 in
theorem lc_clear {p : Program} {l : Launch} {e : Env} {s : State} {m : MethodId} {below : List Frame} {meth : Method} {c : Code} {dC : Nat → ClassId} {dI : Nat → Nat → Nat} {cI cL cII cR cZ cIII cO : ClassId} {h0 b L : Nat} {xs : Nat → Int32} (C0 : lx_C p l s m c b L xs dC dI cI cL cII cR cZ cIII cO h0) {i : Int} (hi : 0 ≤ i ∧ i + 6 ≤ L) {μ ν : va_M} {f : Nat → Int64} (hV : LW9 μ ν) {cells slots : Nat} (hroom : cells + 1 ≤ 601024 ∧ slots + 6 ≤ 7293034)
    (hend : ∀ (μ ν : va_M) (f : Nat → Int64) (H : Heap) (locs : List Loc) (ls : Array Slot), LW9 μ ν → LW dC dI cI cL cII cR cZ cIII cO h0 μ ν f H → va_S (lA h0) s.heap H locs → lv_has ls 7 [(4, .int (iZ i)), (0, .ref b), (1, .ref h0), (2, .ref (h0 + 233)), (3, .ref (h0 + 6558))] → W p l e room_1 s m #[Value.ref b] below meth c H locs (cells + 1) (slots + 6) (lw_Z below #[Value.ref b] s) (F0 m 1468 ls []))
    {H : Heap} {locs : List Loc} {ls : Array Slot} (hW : LW dC dI cI cL cII cR cZ cIII cO h0 μ ν f H) (hS : va_S (lA h0) s.heap H locs) (hl : lv_has ls 7 [(4, .int (iZ i)), (0, .ref b), (1, .ref h0), (2, .ref (h0 + 233)), (3, .ref (h0 + 6558))]) : W p l e room_1 s m #[Value.ref b] below meth c H locs cells slots (lw_Z below #[Value.ref b] s) (F0 m 404 ls []) := by
  obtain ⟨hfl, hx, hb, hml, hown, hts, hX, hbl, hsz0, hL9, hK, hKm, hKo, hM, hEx, hNc⟩ := C0
  obtain ⟨T, Ss, Wk, Bs, hT⟩ := hV
  have hT : LWt T Ss Wk Bs μ ν := hT
  have hT0 := hT
  have hbA : ¬ lA h0 b := Nat.not_le.mpr (by (first | ((try clear hbA); (try clear hT0); (try clear hT); (try clear Bs); (try clear Wk); (try clear Ss); (try clear hend); (try clear hroom); (try clear hi); omega) | omega))
  refine lv_aload_n hx hb dL_law_404 rfl (lv_at hl 2 rfl) ?_
  refine va_calli (va_runV (As := []) (rest := []) ⟨hx, hb, hml, hown, hts⟩ (t_clear l dC dI cI cL cII cR h0 H.size μ T Wk Bs (hT.1.1.1.1.1) (hT.1.2.1) (hT.1.2.2.2.2) (LK_W hT.1)) (cwV 0 hts (gV_G k517 k518 k519 k1 k520) rfl rfl rfl (by decide +kernel) ⟨Nat.le_of_ble_eq_true rfl, Nat.le_of_ble_eq_true rfl⟩) ⟨fun a U g mk q => by obtain ⟨q0, q1, qP, qK, qM⟩ := q; exact ⟨q0, q1, qP, va_K.moved (u := U) (U := U.calling g mk a) (Vm.Alike.refl U.vm) qK, qM⟩, va_recv hK hW.1 (ci := 9) (q0 := 0) rfl ((fw_get (by decide)).trans (by rw [sE_0]; rfl)), fun U hU hW9 => ⟨rfl, by rw [hU], by rw [hU]; exact hW.1, va_K.moved hW9.alike hK, xM_warm hW9 hM⟩⟩ rfl rfl hl.1 rfl (lv_room (Nat.le_of_ble_eq_true rfl)) dL_law_405 ⟨by show cells + 0 ≤ 601024; (first | ((try clear hbA); (try clear hT0); (try clear hT); (try clear Bs); (try clear Wk); (try clear Ss); (try clear hsz0); (try clear hend); (try clear hi); omega) | omega), by show slots + 0 ≤ 7293034; (first | ((try clear hbA); (try clear hT0); (try clear hT); (try clear Bs); (try clear Wk); (try clear Ss); (try clear hsz0); (try clear hend); (try clear hi); omega) | omega)⟩) hS (fun q _ h => lA_f hS hsz0 (Nat.le_refl _) q h) (lA_f hS hsz0 (Nat.le_refl _)) (fun r1 u9 t9 H1 locs ht9 hvm9 hw9 hB9 hz9 hk9 hS => ?_)
  obtain ⟨hP9, -⟩ := hB9
  rw [ht9] at hP9
  have hW := LW_c hW hk9 hP9
  obtain ⟨u1, q1⟩ := u9
  obtain ⟨er9, hw9⟩ := hw9
  have er1 : r1 = iZ q1 := er9
  subst er1
  have hc := hw9
  try dsimp only at hW hT
  clear hk9 hP9
  generalize H1 = H at hW hS ⊢
  refine lv_pop hx hb dL_law_408 rfl ?_
  refine lv_aload_n hx hb dL_law_409 rfl (lv_at hl 3 rfl) ?_
  refine va_calli (va_runV (As := []) (rest := []) ⟨hx, hb, hml, hown, hts⟩ (f_clear l dC dI cI cZ cII cIII (h0 + 233) H.size ν JS (Wk) (Bs) hT.1.1.1.1.2.1 JS_ok (LK_J hT.1)) (cwV 0 hts (gV_G k1572 k1573 k1574 k13 k1575) rfl rfl rfl (by decide +kernel) ⟨Nat.le_of_ble_eq_true rfl, Nat.le_of_ble_eq_true rfl⟩) ⟨fun a U g mk q => by obtain ⟨q0, q1, qP, qK⟩ := q; exact ⟨q0, q1, qP, va_K.moved (u := U) (U := U.calling g mk a) (Vm.Alike.refl U.vm) qK⟩, va_recv hKm hW.2.1 (ci := 10) (q0 := 0) rfl ((fw_get (by decide)).trans (by rw [mE_obj])), fun U hU hW9 => ⟨rfl, by rw [hU], by rw [hU]; exact hW.2.1, va_K.moved hW9.alike hKm⟩⟩ rfl rfl hl.1 rfl (lv_room (Nat.le_of_ble_eq_true rfl)) dL_law_410 ⟨by show cells + 0 ≤ 601024; (first | ((try clear hc); (try clear er1); (try clear er9); (try clear u1); (try clear hP9); (try clear hz9); (try clear r1); (try clear hbA); (try clear hT0); (try clear hT); (try clear Bs); (try clear Ss); (try clear hsz0); (try clear hend); (try clear hi); omega) | omega), by show slots + 0 ≤ 7293034; (first | ((try clear hc); (try clear er1); (try clear er9); (try clear u1); (try clear hP9); (try clear hz9); (try clear r1); (try clear hbA); (try clear hT0); (try clear hT); (try clear Bs); (try clear Ss); (try clear hsz0); (try clear hend); (try clear hi); omega) | omega)⟩) hS (fun q _ h => lA_f hS hsz0 (by (first | ((try clear h); (try clear hc); (try clear er1); (try clear er9); (try clear u1); (try clear hP9); (try clear hz9); (try clear r1); (try clear hbA); (try clear hT0); (try clear hT); (try clear Bs); (try clear Ss); (try clear hsz0); (try clear hend); (try clear hroom); (try clear hi); omega) | omega)) q h) (lA_f hS hsz0 (by (first | ((try clear hc); (try clear er1); (try clear er9); (try clear u1); (try clear hP9); (try clear hz9); (try clear r1); (try clear hbA); (try clear hT0); (try clear hT); (try clear Bs); (try clear Ss); (try clear hsz0); (try clear hend); (try clear hroom); (try clear hi); omega) | omega))) (fun r2 u9 t9 H1 locs ht9 hvm9 hw9 hB9 hz9 hk9 hS => ?_)
  obtain ⟨hP9, -⟩ := hB9
  rw [ht9] at hP9
  have hW := LW_m hW hk9 hP9
  obtain ⟨v1, q2⟩ := u9
  obtain ⟨er9, hw9⟩ := hw9
  have er2 : r2 = iZ q2 := er9
  subst er2
  have hm := hw9
  try dsimp only at hW hT
  clear hk9 hP9
  generalize H1 = H at hW hS ⊢
  refine lv_pop hx hb dL_law_413 rfl ?_
  refine lv_goto (tgt := 1468) hx hb dL_law_414 (by decide) ?_
  have hV9 := (LWt_clear hT hc hm).2
  refine W.widen (k := cells + 1) (n := slots + 6) (by (first | ((try clear hV9); (try clear hm); (try clear er2); (try clear er9); (try clear hP9); (try clear hz9); (try clear r2); (try clear hc); (try clear er1); (try clear u1); (try clear r1); (try clear hbA); (try clear hT0); (try clear hT); (try clear Bs); (try clear Ss); (try clear hsz0); (try clear hend); (try clear hroom); (try clear hi); omega) | omega)) (by (first | ((try clear hV9); (try clear hm); (try clear er2); (try clear er9); (try clear hP9); (try clear hz9); (try clear r2); (try clear hc); (try clear er1); (try clear u1); (try clear r1); (try clear hbA); (try clear hT0); (try clear hT); (try clear Bs); (try clear Ss); (try clear hsz0); (try clear hend); (try clear hroom); (try clear hi); omega) | omega)) ?_
  exact hend _ _ _ H locs ls hV9 hW hS (lv_sub hl [0, 1, 2, 3, 4] rfl)
set_option maxHeartbeats 4000000 in
set_option maxRecDepth 100000 in
theorem lc_told {p : Program} {l : Launch} {e : Env} {s : State} {m : MethodId} {below : List Frame} {meth : Method} {c : Code} {dC : Nat → ClassId} {dI : Nat → Nat → Nat} {cI cL cII cR cZ cIII cO : ClassId} {h0 b L : Nat} {xs : Nat → Int32} (C0 : lx_C p l s m c b L xs dC dI cI cL cII cR cZ cIII cO h0) {i : Int} (hi : 0 ≤ i ∧ i + 6 ≤ L) {μ ν : va_M} {f : Nat → Int64} (hV : LW9 μ ν) {cells slots : Nat} (hroom : cells + 1 ≤ 601024 ∧ slots + 6 ≤ 7293034)
    (hend : ∀ (μ ν : va_M) (f : Nat → Int64) (H : Heap) (locs : List Loc) (ls : Array Slot), LW9 μ ν → LW dC dI cI cL cII cR cZ cIII cO h0 μ ν f H → va_S (lA h0) s.heap H locs → lv_has ls 7 [(4, .int (iZ i)), (0, .ref b), (1, .ref h0), (2, .ref (h0 + 233)), (3, .ref (h0 + 6558))] → W p l e room_1 s m #[Value.ref b] below meth c H locs (cells + 1) (slots + 6) (lw_Z below #[Value.ref b] s) (F0 m 1468 ls []))
    {H : Heap} {locs : List Loc} {ls : Array Slot} (hW : LW dC dI cI cL cII cR cZ cIII cO h0 μ ν f H) (hS : va_S (lA h0) s.heap H locs) (hl : lv_has ls 7 [(4, .int (iZ i)), (0, .ref b), (1, .ref h0), (2, .ref (h0 + 233)), (3, .ref (h0 + 6558))]) : W p l e room_1 s m #[Value.ref b] below meth c H locs cells slots (lw_Z below #[Value.ref b] s) (F0 m 417 ls []) := by
  obtain ⟨hfl, hx, hb, hml, hown, hts, hX, hbl, hsz0, hL9, hK, hKm, hKo, hM, hEx, hNc⟩ := C0
  obtain ⟨T, Ss, Wk, Bs, hT⟩ := hV
  have hT : LWt T Ss Wk Bs μ ν := hT
  have hT0 := hT
  have hbA : ¬ lA h0 b := Nat.not_le.mpr (by (first | ((try clear hbA); (try clear hT0); (try clear hT); (try clear Bs); (try clear Wk); (try clear Ss); (try clear hend); (try clear hroom); (try clear hi); omega) | omega))
  obtain ⟨a1, e1, ha1⟩ := iZ_ex (xs (iZ (i + 1)).toNatClampNeg)
  refine lv_aload_n hx hb dL_law_417 rfl (lv_at hl 2 rfl) ?_
  refine lv_aload_n hx hb dL_law_418 rfl (lv_at hl 1 rfl) ?_
  refine lv_iload hx hb dL_law_419 (lv_at hl 0 rfl) ?_
  refine lv_iconst (v := iZ 1) hx hb dL_law_421 rfl ?_
  refine lv_iadd hx hb dL_law_422 ?_
  refine lv_topi (fun x9 ex9 => ?_)
  obtain rfl : x9 = iZ (i + 1) := ex9.trans (iZ_add _ _)
  refine va_sld hx hb hX hbl hbA hS (iZ_in (by (first | ((try clear ex9); (try clear ha1); (try clear e1); (try clear hbA); (try clear hT0); (try clear hT); (try clear Bs); (try clear Wk); (try clear Ss); (try clear hsz0); (try clear hend); (try clear hroom); omega) | omega)) (by (first | ((try clear ex9); (try clear ha1); (try clear e1); (try clear hbA); (try clear hT0); (try clear hT); (try clear Bs); (try clear Wk); (try clear Ss); (try clear hsz0); (try clear hend); (try clear hroom); omega) | omega)) (by (first | ((try clear ex9); (try clear ha1); (try clear e1); (try clear hbA); (try clear hT0); (try clear hT); (try clear Bs); (try clear Wk); (try clear Ss); (try clear hsz0); (try clear hend); (try clear hroom); (try clear hi); omega) | omega))) dL_law_423 ?_
  refine lv_topi (fun x9 ex9 => ?_)
  obtain rfl : x9 = iZ a1 := ex9.trans e1
  refine lv_aload_n hx hb dL_law_424 rfl (lv_at hl 4 rfl) ?_
  refine va_calli (vx_runSW (hh := [(0, 9, 12, 13)]) (As := [.ref h0, .int (iZ a1), .ref (h0 + 6558)]) (rest := []) ⟨hx, hb, hml, hown, hts⟩ (w_told l hfl dC dI cI cL cII cR cO h0 (h0 + 6558) H.size μ f a1 T (hT.1.1.1.1.1) ha1 (by (first | ((try clear ex9); (try clear ha1); (try clear e1); (try clear hbA); (try clear hT0); (try clear hT); (try clear Bs); (try clear Wk); (try clear Ss); (try clear hsz0); (try clear hend); (try clear hroom); (try clear hi); omega) | omega))) (vx_cwSW 3 hts (gW_G k849 k850 k0 k851) rfl rfl rfl (by decide +kernel) ⟨Nat.le_of_ble_eq_true rfl, Nat.le_of_ble_eq_true rfl⟩) ⟨fun a U g mk q => by obtain ⟨q0, q1, qP, qO, qK, qKo, qM, qE, qN⟩ := q; exact ⟨q0, q1, qP, qO, va_K.moved (u := U) (U := U.calling g mk a) (Vm.Alike.refl U.vm) qK, va_K.moved (u := U) (U := U.calling g mk a) (Vm.Alike.refl U.vm) qKo, qM, xX_call qE, qN⟩, fun U hU hW9 => ⟨rfl, by rw [hU], by rw [hU]; exact hW.1, by rw [hU]; exact hW.2.2, va_K.moved hW9.alike hK, va_K.moved hW9.alike hKo, xM_warm hW9 hM, xX_at hEx hS (fun q h => lA_w hS hsz0 (by (first | ((try clear h); (try clear q); (try clear hU); (try clear U); (try clear mk); (try clear g); (try clear ex9); (try clear ha1); (try clear e1); (try clear hbA); (try clear hT0); (try clear hT); (try clear Bs); (try clear Wk); (try clear Ss); (try clear hsz0); (try clear hend); (try clear hroom); (try clear hi); omega) | omega)) q h) hU hW9, xNC_warm hW9 hNc⟩⟩ rfl rfl hl.1 rfl (lv_room (Nat.le_of_ble_eq_true rfl)) dL_law_425 ⟨by show cells + 1 ≤ 601024; (first | ((try clear ex9); (try clear ha1); (try clear e1); (try clear hbA); (try clear hT0); (try clear hT); (try clear Bs); (try clear Wk); (try clear Ss); (try clear hsz0); (try clear hend); (try clear hi); omega) | omega), by show slots + 6 ≤ 7293034; (first | ((try clear ex9); (try clear ha1); (try clear e1); (try clear hbA); (try clear hT0); (try clear hT); (try clear Bs); (try clear Wk); (try clear Ss); (try clear hsz0); (try clear hend); (try clear hi); omega) | omega)⟩) hS (fun q _ h => lA_w hS hsz0 (by (first | ((try clear h); (try clear ex9); (try clear ha1); (try clear e1); (try clear hbA); (try clear hT0); (try clear hT); (try clear Bs); (try clear Wk); (try clear Ss); (try clear hsz0); (try clear hend); (try clear hroom); (try clear hi); omega) | omega)) q h) (lA_w hS hsz0 (by (first | ((try clear ex9); (try clear ha1); (try clear e1); (try clear hbA); (try clear hT0); (try clear hT); (try clear Bs); (try clear Wk); (try clear Ss); (try clear hsz0); (try clear hend); (try clear hroom); (try clear hi); omega) | omega))) (fun r1 u9 t9 H1 locs ht9 hvm9 hw9 hB9 hz9 hk9 hS => ?_)
  obtain ⟨hP9, hO9⟩ := hB9
  rw [ht9] at hP9 hO9
  have hW := LW_w hW hk9 hP9 hO9
  have hT := LWt_c hT hw9
  obtain ⟨u1, f1⟩ := u9
  try dsimp only at hW hT
  clear hk9 hP9 hO9
  generalize H1 = H at hW hS ⊢
  refine lv_istore (lv' := [(5, .int r1), (4, .int (iZ i)), (0, .ref b), (1, .ref h0), (2, .ref (h0 + 233)), (3, .ref (h0 + 6558))]) hx hb dL_law_428 hl (by decide) rfl (fun ls hl => ?_)
  refine lv_aload_n hx hb dL_law_430 rfl (lv_at hl 4 rfl) ?_
  refine lv_aload_n hx hb dL_law_431 rfl (lv_at hl 2 rfl) ?_
  refine lv_iload hx hb dL_law_432 (lv_at hl 1 rfl) ?_
  refine lv_iconst (v := iZ 1) hx hb dL_law_434 rfl ?_
  refine lv_iadd hx hb dL_law_435 ?_
  refine lv_topi (fun x9 ex9 => ?_)
  obtain rfl : x9 = iZ (i + 1) := ex9.trans (iZ_add _ _)
  refine va_sld hx hb hX hbl hbA hS (iZ_in (by (first | ((try clear ex9); (try clear f1); (try clear u1); (try clear hT); (try clear hO9); (try clear hP9); (try clear hz9); (try clear r1); (try clear ha1); (try clear e1); (try clear hbA); (try clear hT0); (try clear Bs); (try clear Wk); (try clear Ss); (try clear hsz0); (try clear hend); (try clear hroom); omega) | omega)) (by (first | ((try clear ex9); (try clear f1); (try clear u1); (try clear hT); (try clear hO9); (try clear hP9); (try clear hz9); (try clear r1); (try clear ha1); (try clear e1); (try clear hbA); (try clear hT0); (try clear Bs); (try clear Wk); (try clear Ss); (try clear hsz0); (try clear hend); (try clear hroom); omega) | omega)) (by (first | ((try clear ex9); (try clear f1); (try clear u1); (try clear hT); (try clear hO9); (try clear hP9); (try clear hz9); (try clear r1); (try clear ha1); (try clear e1); (try clear hbA); (try clear hT0); (try clear Bs); (try clear Wk); (try clear Ss); (try clear hsz0); (try clear hend); (try clear hroom); (try clear hi); omega) | omega))) dL_law_436 ?_
  refine lv_topi (fun x9 ex9 => ?_)
  obtain rfl : x9 = iZ a1 := ex9.trans e1
  refine va_calli (va_runV (As := [.int (iZ a1)]) (rest := []) ⟨hx, hb, hml, hown, hts⟩ (m_told l dC dI cI cZ cII cIII (h0 + 233) H.size ν a1 hT.1.1.1.1.2.1.1 ha1) (cwV 1 hts (gV_G k1576 k1577 k1578 k13 k1579) rfl rfl rfl (by decide +kernel) ⟨Nat.le_of_ble_eq_true rfl, Nat.le_of_ble_eq_true rfl⟩) ⟨fun a U g mk q => by obtain ⟨q0, q1, qP, qK⟩ := q; exact ⟨q0, q1, qP, va_K.moved (u := U) (U := U.calling g mk a) (Vm.Alike.refl U.vm) qK⟩, va_recv hKm hW.2.1 (ci := 10) (q0 := 0) rfl ((fw_get (by decide)).trans (by rw [mE_obj])), fun U hU hW9 => ⟨rfl, by rw [hU], by rw [hU]; exact hW.2.1, va_K.moved hW9.alike hKm⟩⟩ rfl rfl hl.1 rfl (lv_room (Nat.le_of_ble_eq_true rfl)) dL_law_437 ⟨by show cells + 1 + 0 ≤ 601024; (first | ((try clear ex9); (try clear f1); (try clear u1); (try clear hT); (try clear hO9); (try clear hP9); (try clear hz9); (try clear r1); (try clear ha1); (try clear e1); (try clear hbA); (try clear hT0); (try clear Bs); (try clear Wk); (try clear Ss); (try clear hsz0); (try clear hend); (try clear hi); omega) | omega), by show slots + 6 + 0 ≤ 7293034; (first | ((try clear ex9); (try clear f1); (try clear u1); (try clear hT); (try clear hO9); (try clear hP9); (try clear hz9); (try clear r1); (try clear ha1); (try clear e1); (try clear hbA); (try clear hT0); (try clear Bs); (try clear Wk); (try clear Ss); (try clear hsz0); (try clear hend); (try clear hi); omega) | omega)⟩) hS (fun q _ h => lA_f hS hsz0 (by (first | ((try clear h); (try clear ex9); (try clear f1); (try clear u1); (try clear hT); (try clear hO9); (try clear hP9); (try clear hz9); (try clear r1); (try clear ha1); (try clear e1); (try clear hbA); (try clear hT0); (try clear Bs); (try clear Wk); (try clear Ss); (try clear hsz0); (try clear hend); (try clear hroom); (try clear hi); omega) | omega)) q h) (lA_f hS hsz0 (by (first | ((try clear ex9); (try clear f1); (try clear u1); (try clear hT); (try clear hO9); (try clear hP9); (try clear hz9); (try clear r1); (try clear ha1); (try clear e1); (try clear hbA); (try clear hT0); (try clear Bs); (try clear Wk); (try clear Ss); (try clear hsz0); (try clear hend); (try clear hroom); (try clear hi); omega) | omega))) (fun r2 u9 t9 H1 locs ht9 hvm9 hw9 hB9 hz9 hk9 hS => ?_)
  obtain ⟨hP9, -⟩ := hB9
  rw [ht9] at hP9
  have hW := LW_m hW hk9 hP9
  obtain ⟨v1, q2⟩ := u9
  obtain ⟨er9, hw9⟩ := hw9
  have er2 : r2 = iZ q2 := er9
  subst er2
  have hT := LWt_ps hT hw9
  try dsimp only at hW hT
  clear hk9 hP9
  generalize H1 = H at hW hS ⊢
  refine lv_istore (lv' := [(6, .int (iZ q2)), (5, .int r1), (4, .int (iZ i)), (0, .ref b), (1, .ref h0), (2, .ref (h0 + 233)), (3, .ref (h0 + 6558))]) hx hb dL_law_440 hl (by decide) rfl (fun ls hl => ?_)
  refine lv_goto (tgt := 1468) hx hb dL_law_442 (by decide) ?_
  have hV9 : LW9 u1 v1 := ⟨T, Ss, Wk, Bs, hT⟩
  refine W.widen (k := cells + 1) (n := slots + 6) (by (first | ((try clear hT); (try clear er2); (try clear er9); (try clear q2); (try clear v1); (try clear hP9); (try clear hz9); (try clear r2); (try clear ex9); (try clear f1); (try clear u1); (try clear hO9); (try clear r1); (try clear ha1); (try clear e1); (try clear hbA); (try clear hT0); (try clear Bs); (try clear Wk); (try clear Ss); (try clear hsz0); (try clear hend); (try clear hroom); (try clear hi); omega) | omega)) (by (first | ((try clear hT); (try clear er2); (try clear er9); (try clear q2); (try clear v1); (try clear hP9); (try clear hz9); (try clear r2); (try clear ex9); (try clear f1); (try clear u1); (try clear hO9); (try clear r1); (try clear ha1); (try clear e1); (try clear hbA); (try clear hT0); (try clear Bs); (try clear Wk); (try clear Ss); (try clear hsz0); (try clear hend); (try clear hroom); (try clear hi); omega) | omega)) ?_
  exact hend _ _ _ H locs ls hV9 hW hS (lv_sub hl [2, 3, 4, 5, 6] rfl)
set_option maxHeartbeats 4000000 in
set_option maxRecDepth 100000 in
theorem lc_pageOf {p : Program} {l : Launch} {e : Env} {s : State} {m : MethodId} {below : List Frame} {meth : Method} {c : Code} {dC : Nat → ClassId} {dI : Nat → Nat → Nat} {cI cL cII cR cZ cIII cO : ClassId} {h0 b L : Nat} {xs : Nat → Int32} (C0 : lx_C p l s m c b L xs dC dI cI cL cII cR cZ cIII cO h0) {i : Int} (hi : 0 ≤ i ∧ i + 6 ≤ L) {μ ν : va_M} {f : Nat → Int64} (hV : LW9 μ ν) {cells slots : Nat} (hroom : cells + 1 ≤ 601024 ∧ slots + 6 ≤ 7293034)
    (hend : ∀ (μ ν : va_M) (f : Nat → Int64) (H : Heap) (locs : List Loc) (ls : Array Slot), LW9 μ ν → LW dC dI cI cL cII cR cZ cIII cO h0 μ ν f H → va_S (lA h0) s.heap H locs → lv_has ls 7 [(4, .int (iZ i)), (0, .ref b), (1, .ref h0), (2, .ref (h0 + 233)), (3, .ref (h0 + 6558))] → W p l e room_1 s m #[Value.ref b] below meth c H locs (cells + 1) (slots + 6) (lw_Z below #[Value.ref b] s) (F0 m 1468 ls []))
    {H : Heap} {locs : List Loc} {ls : Array Slot} (hW : LW dC dI cI cL cII cR cZ cIII cO h0 μ ν f H) (hS : va_S (lA h0) s.heap H locs) (hl : lv_has ls 7 [(4, .int (iZ i)), (0, .ref b), (1, .ref h0), (2, .ref (h0 + 233)), (3, .ref (h0 + 6558))]) : W p l e room_1 s m #[Value.ref b] below meth c H locs cells slots (lw_Z below #[Value.ref b] s) (F0 m 445 ls []) := by
  obtain ⟨hfl, hx, hb, hml, hown, hts, hX, hbl, hsz0, hL9, hK, hKm, hKo, hM, hEx, hNc⟩ := C0
  obtain ⟨T, Ss, Wk, Bs, hT⟩ := hV
  have hT : LWt T Ss Wk Bs μ ν := hT
  have hT0 := hT
  have hbA : ¬ lA h0 b := Nat.not_le.mpr (by (first | ((try clear hbA); (try clear hT0); (try clear hT); (try clear Bs); (try clear Wk); (try clear Ss); (try clear hend); (try clear hroom); (try clear hi); omega) | omega))
  obtain ⟨a1, e1, ha1⟩ := iZ_ex (xs (iZ (i + 1)).toNatClampNeg)
  obtain ⟨a2, e2, ha2⟩ := iZ_ex (xs (iZ (i + 2)).toNatClampNeg)
  refine lv_aload_n hx hb dL_law_445 rfl (lv_at hl 2 rfl) ?_
  refine lv_aload_n hx hb dL_law_446 rfl (lv_at hl 1 rfl) ?_
  refine lv_iload hx hb dL_law_447 (lv_at hl 0 rfl) ?_
  refine lv_iconst (v := iZ 1) hx hb dL_law_449 rfl ?_
  refine lv_iadd hx hb dL_law_450 ?_
  refine lv_topi (fun x9 ex9 => ?_)
  obtain rfl : x9 = iZ (i + 1) := ex9.trans (iZ_add _ _)
  refine va_sld hx hb hX hbl hbA hS (iZ_in (by (first | ((try clear ex9); (try clear ha2); (try clear e2); (try clear ha1); (try clear e1); (try clear hbA); (try clear hT0); (try clear hT); (try clear Bs); (try clear Wk); (try clear Ss); (try clear hsz0); (try clear hend); (try clear hroom); omega) | omega)) (by (first | ((try clear ex9); (try clear ha2); (try clear e2); (try clear ha1); (try clear e1); (try clear hbA); (try clear hT0); (try clear hT); (try clear Bs); (try clear Wk); (try clear Ss); (try clear hsz0); (try clear hend); (try clear hroom); omega) | omega)) (by (first | ((try clear ex9); (try clear ha2); (try clear e2); (try clear ha1); (try clear e1); (try clear hbA); (try clear hT0); (try clear hT); (try clear Bs); (try clear Wk); (try clear Ss); (try clear hsz0); (try clear hend); (try clear hroom); (try clear hi); omega) | omega))) dL_law_451 ?_
  refine lv_topi (fun x9 ex9 => ?_)
  obtain rfl : x9 = iZ a1 := ex9.trans e1
  refine lv_aload_n hx hb dL_law_452 rfl (lv_at hl 1 rfl) ?_
  refine lv_iload hx hb dL_law_453 (lv_at hl 0 rfl) ?_
  refine lv_iconst (v := iZ 2) hx hb dL_law_455 rfl ?_
  refine lv_iadd hx hb dL_law_456 ?_
  refine lv_topi (fun x9 ex9 => ?_)
  obtain rfl : x9 = iZ (i + 2) := ex9.trans (iZ_add _ _)
  refine va_sld hx hb hX hbl hbA hS (iZ_in (by (first | ((try clear ex9); (try clear ha2); (try clear e2); (try clear ha1); (try clear e1); (try clear hbA); (try clear hT0); (try clear hT); (try clear Bs); (try clear Wk); (try clear Ss); (try clear hsz0); (try clear hend); (try clear hroom); omega) | omega)) (by (first | ((try clear ex9); (try clear ha2); (try clear e2); (try clear ha1); (try clear e1); (try clear hbA); (try clear hT0); (try clear hT); (try clear Bs); (try clear Wk); (try clear Ss); (try clear hsz0); (try clear hend); (try clear hroom); omega) | omega)) (by (first | ((try clear ex9); (try clear ha2); (try clear e2); (try clear ha1); (try clear e1); (try clear hbA); (try clear hT0); (try clear hT); (try clear Bs); (try clear Wk); (try clear Ss); (try clear hsz0); (try clear hend); (try clear hroom); (try clear hi); omega) | omega))) dL_law_457 ?_
  refine lv_topi (fun x9 ex9 => ?_)
  obtain rfl : x9 = iZ a2 := ex9.trans e2
  refine lv_aload_n hx hb dL_law_458 rfl (lv_at hl 4 rfl) ?_
  refine va_calli (vx_runSW (hh := [(0, 10, 13, 20), (0, 10, 17, 13)]) (As := [.ref h0, .int (iZ a1), .int (iZ a2), .ref (h0 + 6558)]) (rest := []) ⟨hx, hb, hml, hown, hts⟩ (w_pageOf l hfl dC dI cI cL cII cR cO h0 (h0 + 6558) H.size μ f a1 a2 T (hT.1.1.1.1.1) ha1 ha2 (by (first | ((try clear ex9); (try clear ha2); (try clear e2); (try clear ha1); (try clear e1); (try clear hbA); (try clear hT0); (try clear hT); (try clear Bs); (try clear Wk); (try clear Ss); (try clear hsz0); (try clear hend); (try clear hroom); (try clear hi); omega) | omega))) (vx_cwSW 4 hts (gW_G k860 k861 k0 k862) rfl rfl rfl (by decide +kernel) ⟨Nat.le_of_ble_eq_true rfl, Nat.le_of_ble_eq_true rfl⟩) ⟨fun a U g mk q => by obtain ⟨q0, q1, qP, qO, qK, qKo, qM, qE, qN⟩ := q; exact ⟨q0, q1, qP, qO, va_K.moved (u := U) (U := U.calling g mk a) (Vm.Alike.refl U.vm) qK, va_K.moved (u := U) (U := U.calling g mk a) (Vm.Alike.refl U.vm) qKo, qM, xX_call qE, qN⟩, fun U hU hW9 => ⟨rfl, by rw [hU], by rw [hU]; exact hW.1, by rw [hU]; exact hW.2.2, va_K.moved hW9.alike hK, va_K.moved hW9.alike hKo, xM_warm hW9 hM, xX_at hEx hS (fun q h => lA_w hS hsz0 (by (first | ((try clear h); (try clear q); (try clear hU); (try clear U); (try clear mk); (try clear g); (try clear ex9); (try clear ha2); (try clear e2); (try clear ha1); (try clear e1); (try clear hbA); (try clear hT0); (try clear hT); (try clear Bs); (try clear Wk); (try clear Ss); (try clear hsz0); (try clear hend); (try clear hroom); (try clear hi); omega) | omega)) q h) hU hW9, xNC_warm hW9 hNc⟩⟩ rfl rfl hl.1 rfl (lv_room (Nat.le_of_ble_eq_true rfl)) dL_law_459 ⟨by show cells + 1 ≤ 601024; (first | ((try clear ex9); (try clear ha2); (try clear e2); (try clear ha1); (try clear e1); (try clear hbA); (try clear hT0); (try clear hT); (try clear Bs); (try clear Wk); (try clear Ss); (try clear hsz0); (try clear hend); (try clear hi); omega) | omega), by show slots + 6 ≤ 7293034; (first | ((try clear ex9); (try clear ha2); (try clear e2); (try clear ha1); (try clear e1); (try clear hbA); (try clear hT0); (try clear hT); (try clear Bs); (try clear Wk); (try clear Ss); (try clear hsz0); (try clear hend); (try clear hi); omega) | omega)⟩) hS (fun q _ h => lA_w hS hsz0 (by (first | ((try clear h); (try clear ex9); (try clear ha2); (try clear e2); (try clear ha1); (try clear e1); (try clear hbA); (try clear hT0); (try clear hT); (try clear Bs); (try clear Wk); (try clear Ss); (try clear hsz0); (try clear hend); (try clear hroom); (try clear hi); omega) | omega)) q h) (lA_w hS hsz0 (by (first | ((try clear ex9); (try clear ha2); (try clear e2); (try clear ha1); (try clear e1); (try clear hbA); (try clear hT0); (try clear hT); (try clear Bs); (try clear Wk); (try clear Ss); (try clear hsz0); (try clear hend); (try clear hroom); (try clear hi); omega) | omega))) (fun r1 u9 t9 H1 locs ht9 hvm9 hw9 hB9 hz9 hk9 hS => ?_)
  obtain ⟨hP9, hO9⟩ := hB9
  rw [ht9] at hP9 hO9
  have hW := LW_w hW hk9 hP9 hO9
  have hT := LWt_c hT hw9
  obtain ⟨u1, f1⟩ := u9
  try dsimp only at hW hT
  clear hk9 hP9 hO9
  generalize H1 = H at hW hS ⊢
  refine lv_istore (lv' := [(5, .int r1), (4, .int (iZ i)), (0, .ref b), (1, .ref h0), (2, .ref (h0 + 233)), (3, .ref (h0 + 6558))]) hx hb dL_law_462 hl (by decide) rfl (fun ls hl => ?_)
  refine lv_aload_n hx hb dL_law_464 rfl (lv_at hl 4 rfl) ?_
  refine lv_aload_n hx hb dL_law_465 rfl (lv_at hl 2 rfl) ?_
  refine lv_iload hx hb dL_law_466 (lv_at hl 1 rfl) ?_
  refine lv_iconst (v := iZ 1) hx hb dL_law_468 rfl ?_
  refine lv_iadd hx hb dL_law_469 ?_
  refine lv_topi (fun x9 ex9 => ?_)
  obtain rfl : x9 = iZ (i + 1) := ex9.trans (iZ_add _ _)
  refine va_sld hx hb hX hbl hbA hS (iZ_in (by (first | ((try clear ex9); (try clear f1); (try clear u1); (try clear hT); (try clear hO9); (try clear hP9); (try clear hz9); (try clear r1); (try clear ha2); (try clear e2); (try clear ha1); (try clear e1); (try clear hbA); (try clear hT0); (try clear Bs); (try clear Wk); (try clear Ss); (try clear hsz0); (try clear hend); (try clear hroom); omega) | omega)) (by (first | ((try clear ex9); (try clear f1); (try clear u1); (try clear hT); (try clear hO9); (try clear hP9); (try clear hz9); (try clear r1); (try clear ha2); (try clear e2); (try clear ha1); (try clear e1); (try clear hbA); (try clear hT0); (try clear Bs); (try clear Wk); (try clear Ss); (try clear hsz0); (try clear hend); (try clear hroom); omega) | omega)) (by (first | ((try clear ex9); (try clear f1); (try clear u1); (try clear hT); (try clear hO9); (try clear hP9); (try clear hz9); (try clear r1); (try clear ha2); (try clear e2); (try clear ha1); (try clear e1); (try clear hbA); (try clear hT0); (try clear Bs); (try clear Wk); (try clear Ss); (try clear hsz0); (try clear hend); (try clear hroom); (try clear hi); omega) | omega))) dL_law_470 ?_
  refine lv_topi (fun x9 ex9 => ?_)
  obtain rfl : x9 = iZ a1 := ex9.trans e1
  refine lv_aload_n hx hb dL_law_471 rfl (lv_at hl 2 rfl) ?_
  refine lv_iload hx hb dL_law_472 (lv_at hl 1 rfl) ?_
  refine lv_iconst (v := iZ 2) hx hb dL_law_474 rfl ?_
  refine lv_iadd hx hb dL_law_475 ?_
  refine lv_topi (fun x9 ex9 => ?_)
  obtain rfl : x9 = iZ (i + 2) := ex9.trans (iZ_add _ _)
  refine va_sld hx hb hX hbl hbA hS (iZ_in (by (first | ((try clear ex9); (try clear f1); (try clear u1); (try clear hT); (try clear hO9); (try clear hP9); (try clear hz9); (try clear r1); (try clear ha2); (try clear e2); (try clear ha1); (try clear e1); (try clear hbA); (try clear hT0); (try clear Bs); (try clear Wk); (try clear Ss); (try clear hsz0); (try clear hend); (try clear hroom); omega) | omega)) (by (first | ((try clear ex9); (try clear f1); (try clear u1); (try clear hT); (try clear hO9); (try clear hP9); (try clear hz9); (try clear r1); (try clear ha2); (try clear e2); (try clear ha1); (try clear e1); (try clear hbA); (try clear hT0); (try clear Bs); (try clear Wk); (try clear Ss); (try clear hsz0); (try clear hend); (try clear hroom); omega) | omega)) (by (first | ((try clear ex9); (try clear f1); (try clear u1); (try clear hT); (try clear hO9); (try clear hP9); (try clear hz9); (try clear r1); (try clear ha2); (try clear e2); (try clear ha1); (try clear e1); (try clear hbA); (try clear hT0); (try clear Bs); (try clear Wk); (try clear Ss); (try clear hsz0); (try clear hend); (try clear hroom); (try clear hi); omega) | omega))) dL_law_476 ?_
  refine lv_topi (fun x9 ex9 => ?_)
  obtain rfl : x9 = iZ a2 := ex9.trans e2
  refine va_calli (va_runV (As := [.int (iZ a1), .int (iZ a2)]) (rest := []) ⟨hx, hb, hml, hown, hts⟩ (m_pageOf l dC dI cI cZ cII cIII (h0 + 233) H.size ν a1 a2 hT.1.1.1.1.2.1.1 ha1 ha2) (cwV 2 hts (gV_G k1584 k1585 k1586 k13 k1587) rfl rfl rfl (by decide +kernel) ⟨Nat.le_of_ble_eq_true rfl, Nat.le_of_ble_eq_true rfl⟩) ⟨fun a U g mk q => by obtain ⟨q0, q1, qP, qK⟩ := q; exact ⟨q0, q1, qP, va_K.moved (u := U) (U := U.calling g mk a) (Vm.Alike.refl U.vm) qK⟩, va_recv hKm hW.2.1 (ci := 10) (q0 := 0) rfl ((fw_get (by decide)).trans (by rw [mE_obj])), fun U hU hW9 => ⟨rfl, by rw [hU], by rw [hU]; exact hW.2.1, va_K.moved hW9.alike hKm⟩⟩ rfl rfl hl.1 rfl (lv_room (Nat.le_of_ble_eq_true rfl)) dL_law_477 ⟨by show cells + 1 + 0 ≤ 601024; (first | ((try clear ex9); (try clear f1); (try clear u1); (try clear hT); (try clear hO9); (try clear hP9); (try clear hz9); (try clear r1); (try clear ha2); (try clear e2); (try clear ha1); (try clear e1); (try clear hbA); (try clear hT0); (try clear Bs); (try clear Wk); (try clear Ss); (try clear hsz0); (try clear hend); (try clear hi); omega) | omega), by show slots + 6 + 0 ≤ 7293034; (first | ((try clear ex9); (try clear f1); (try clear u1); (try clear hT); (try clear hO9); (try clear hP9); (try clear hz9); (try clear r1); (try clear ha2); (try clear e2); (try clear ha1); (try clear e1); (try clear hbA); (try clear hT0); (try clear Bs); (try clear Wk); (try clear Ss); (try clear hsz0); (try clear hend); (try clear hi); omega) | omega)⟩) hS (fun q _ h => lA_f hS hsz0 (by (first | ((try clear h); (try clear ex9); (try clear f1); (try clear u1); (try clear hT); (try clear hO9); (try clear hP9); (try clear hz9); (try clear r1); (try clear ha2); (try clear e2); (try clear ha1); (try clear e1); (try clear hbA); (try clear hT0); (try clear Bs); (try clear Wk); (try clear Ss); (try clear hsz0); (try clear hend); (try clear hroom); (try clear hi); omega) | omega)) q h) (lA_f hS hsz0 (by (first | ((try clear ex9); (try clear f1); (try clear u1); (try clear hT); (try clear hO9); (try clear hP9); (try clear hz9); (try clear r1); (try clear ha2); (try clear e2); (try clear ha1); (try clear e1); (try clear hbA); (try clear hT0); (try clear Bs); (try clear Wk); (try clear Ss); (try clear hsz0); (try clear hend); (try clear hroom); (try clear hi); omega) | omega))) (fun r2 u9 t9 H1 locs ht9 hvm9 hw9 hB9 hz9 hk9 hS => ?_)
  obtain ⟨hP9, -⟩ := hB9
  rw [ht9] at hP9
  have hW := LW_m hW hk9 hP9
  obtain ⟨v1, q2⟩ := u9
  obtain ⟨er9, hw9⟩ := hw9
  have er2 : r2 = iZ q2 := er9
  subst er2
  have hT := LWt_ps hT hw9
  try dsimp only at hW hT
  clear hk9 hP9
  generalize H1 = H at hW hS ⊢
  refine lv_istore (lv' := [(6, .int (iZ q2)), (5, .int r1), (4, .int (iZ i)), (0, .ref b), (1, .ref h0), (2, .ref (h0 + 233)), (3, .ref (h0 + 6558))]) hx hb dL_law_480 hl (by decide) rfl (fun ls hl => ?_)
  refine lv_goto (tgt := 1468) hx hb dL_law_482 (by decide) ?_
  have hV9 : LW9 u1 v1 := ⟨T, Ss, Wk, Bs, hT⟩
  refine W.widen (k := cells + 1) (n := slots + 6) (by (first | ((try clear hT); (try clear er2); (try clear er9); (try clear q2); (try clear v1); (try clear hP9); (try clear hz9); (try clear r2); (try clear ex9); (try clear f1); (try clear u1); (try clear hO9); (try clear r1); (try clear ha2); (try clear e2); (try clear ha1); (try clear e1); (try clear hbA); (try clear hT0); (try clear Bs); (try clear Wk); (try clear Ss); (try clear hsz0); (try clear hend); (try clear hroom); (try clear hi); omega) | omega)) (by (first | ((try clear hT); (try clear er2); (try clear er9); (try clear q2); (try clear v1); (try clear hP9); (try clear hz9); (try clear r2); (try clear ex9); (try clear f1); (try clear u1); (try clear hO9); (try clear r1); (try clear ha2); (try clear e2); (try clear ha1); (try clear e1); (try clear hbA); (try clear hT0); (try clear Bs); (try clear Wk); (try clear Ss); (try clear hsz0); (try clear hend); (try clear hroom); (try clear hi); omega) | omega)) ?_
  exact hend _ _ _ H locs ls hV9 hW hS (lv_sub hl [2, 3, 4, 5, 6] rfl)
